import java.util.function.Supplier;
import java.util.function.ToIntFunction;

/** Counts and prints answers that are not as due, and ends a test by it. */
final class Due {
    private int wrong = 0;
    private int asked = 0;
    private int promise = 0;
    private String words = "";

    void promise(int number) {
        sentence(number, "");
    }

    /** The document's words that the answers from here on are held against. */
    void sentence(int number, String said) {
        promise = number;
        words = said;
    }

    void is(String call, long got, long want) {
        is(call, Long.toString(got), Long.toString(want));
    }

    void is(String call, boolean got, boolean want) {
        is(call, got ? 1L : 0L, want ? 1L : 0L);
    }

    void is(String call, String got, String want) {
        asked++;
        if (!got.equals(want)) {
            wrong++;
            String said = words.isEmpty() ? "" : " (" + words + ")";
            System.out.println("promise " + promise + said + ": " + call + " answered " + got
                + ", due is " + want);
        }
    }

    /** The call answers so and does nothing: the object is then as one that was not called. */
    void refuses(Supplier<WayMarks> maker, String call, ToIntFunction<WayMarks> asks, int want) {
        WayMarks called = maker.get();
        WayMarks other = maker.get();
        is(call, asks.applyAsInt(called), want);
        is("all that is seen after " + call, Seen.of(called), Seen.of(other));
        called.roads(called.about(8));
        other.roads(other.about(8));
        is("the tape after " + call, Seen.of(called), Seen.of(other));
        called.undo(2);
        other.undo(2);
        is("what undo brings back after " + call, Seen.of(called), Seen.of(other));
    }

    void refusesFlag(Supplier<WayMarks> maker, String call, ToFlag asks) {
        refuses(maker, call, x -> asks.of(x) ? 1 : 0, 0);
    }

    interface ToFlag {
        boolean of(WayMarks x);
    }

    void end() {
        System.out.println(wrong == 0
            ? "all " + asked + " answers are as due"
            : wrong + " of " + asked + " answers are not as due");
        if (wrong != 0) {
            System.exit(1);
        }
    }
}

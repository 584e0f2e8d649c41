/** Counts and prints answers that are not as due, and ends a test by it. */
final class Due {
    private int wrong = 0;
    private int asked = 0;
    private int promise = 0;

    void promise(int number) {
        promise = number;
    }

    void is(String call, long got, long want) {
        asked++;
        if (got != want) {
            wrong++;
            System.out.println("promise " + promise + ": " + call + " answered " + got + ", due is " + want);
        }
    }

    void is(String call, boolean got, boolean want) {
        is(call, got ? 1L : 0L, want ? 1L : 0L);
    }

    void end() {
        System.out.println(wrong == 0
            ? "all " + asked + " answers are as due"
            : wrong + " of " + asked + " answers are not as due");
        if (wrong != 0) {
            System.exit(1);
        }
    }
}

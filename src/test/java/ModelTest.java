import java.util.Random;

/** Runs of calls by a fixed seed, each answer held against that of SlowMarks. */
public final class ModelTest {
    private static final int CALLS = 500;
    private static final String[] CALL_NAMES = {
        "post", "road", "cut", "feed", "roads", "reach", "price", "chance", "rule", "may", "want",
        "way", "of", "answer", "parts", "clash", "twins", "least", "every", "cheapest", "set",
        "shown", "pair", "greedy", "word", "clear", "fits", "where", "against", "worst", "next",
        "mean", "seek", "tree", "undo", "about"};
    private static final int ASKS_FROM = 11;

    private final Random random;
    private final WayMarks real = new WayMarks();
    private final SlowMarks slow = new SlowMarks();
    private final int mostPosts;
    private final int mostLength;

    private ModelTest(long seed) {
        random = new Random(seed);
        int[] sizes = {2, 4, 6, 8, 10, 12, 16};
        mostPosts = sizes[random.nextInt(sizes.length)];
        mostLength = random.nextBoolean() ? 1 : random.nextBoolean() ? 3 : 1000;
    }

    private static long num(boolean b) {
        return b ? 1 : 0;
    }

    /** A post mostly, now and then one that is none. */
    private int somePost() {
        int roll = random.nextInt(40);
        if (roll == 0) {
            return -1 - random.nextInt(3);
        }
        return roll == 1 ? slow.s.n + random.nextInt(20) : random.nextInt(slow.s.n);
    }

    private int someSet() {
        int roll = random.nextInt(30);
        if (roll == 0) {
            return random.nextInt();
        }
        if (roll == 1) {
            return 1 << slow.s.n;
        }
        int all = (1 << slow.s.n) - 1;
        if (roll < 10) {
            return all;
        }
        return roll < 20 ? all & random.nextInt() : all & random.nextInt() & random.nextInt();
    }

    private int someIndex() {
        return random.nextInt(8) - 1;
    }

    private int someNumber(int low, int high) {
        int roll = random.nextInt(12);
        if (roll == 0) {
            return low - 1;
        }
        if (roll == 1) {
            return high + 1;
        }
        if (roll == 2) {
            return random.nextBoolean() ? low : high;
        }
        return low + random.nextInt(Math.min(high, low + 9) - low + 1);
    }

    private int someFeed() {
        int length = random.nextInt(15) == 0 ? random.nextInt() : 1 + random.nextInt(mostLength);
        return somePost() << 24 | somePost() << 16 & 0xff0000 | length & 0xffff;
    }

    private long[] change(String name) {
        int a = somePost();
        int b = somePost();
        int v;
        switch (name) {
            case "post":
                // Big nets are dear for the slow one, and come with the runs that ask for them.
                if (slow.s.n >= mostPosts && mostPosts < 16) {
                    return null;
                }
                return new long[] {real.post(), slow.post()};
            case "road":
                v = random.nextInt(10) == 0 ? someNumber(1, 1000) : 1 + random.nextInt(mostLength);
                return new long[] {num(real.road(a, b, v)), num(slow.road(a, b, v))};
            case "cut":
                return new long[] {num(real.cut(a, b)), num(slow.cut(a, b))};
            case "feed":
                int[] f = {someFeed(), someFeed(), someFeed(), someFeed(), someFeed()};
                return new long[] {real.feed(f[0], f[1], f[2], f[3], f[4]), slow.feed(f)};
            case "roads":
                v = random.nextInt(4) == 0 ? someNumber(0, 400) : random.nextInt(slow.tape.size() + 1);
                return new long[] {real.roads(v), slow.roads(v)};
            case "reach":
                v = someNumber(0, 20000);
                return new long[] {num(real.reach(a, v)), num(slow.reach(a, v))};
            case "price":
                v = someNumber(1, 1000);
                return new long[] {num(real.price(a, v)), num(slow.price(a, v))};
            case "chance":
                v = someNumber(0, 100);
                return new long[] {num(real.chance(a, v)), num(slow.chance(a, v))};
            case "rule":
                int kind = someNumber(0, 4);
                v = kind == 3 ? someNumber(0, 20000) : random.nextInt(9) == 0 ? 1 : 0;
                return new long[] {num(real.rule(kind, v)), num(slow.rule(kind, v))};
            case "may":
                v = random.nextInt(3) == 0 ? someNumber(0, 3) : random.nextInt(2);
                boolean lie = random.nextBoolean();
                return new long[] {real.may(v, lie), slow.may(v, lie)};
            default:
                boolean yes = random.nextBoolean();
                real.want(yes);
                slow.want(yes);
                return new long[] {0, 0};
        }
    }

    private long[] ask(String name) {
        int a = somePost();
        int b = somePost();
        int x = someSet();
        int k = someIndex();
        switch (name) {
            case "way": return new long[] {real.way(a, b), slow.way(a, b)};
            case "of": return new long[] {real.of(a, k), slow.of(a, k)};
            case "answer": return new long[] {real.answer(a, b), slow.answer(a, b)};
            case "parts": return new long[] {real.parts(x, a, b), slow.parts(x, a, b)};
            case "clash": return new long[] {real.clash(x), slow.clash(x)};
            case "twins": return new long[] {real.twins(k), slow.twins(k)};
            case "least": return new long[] {real.least(), slow.least()};
            case "every": return new long[] {real.every(), slow.every()};
            case "cheapest": return new long[] {real.cheapest(), slow.cheapest()};
            case "set": return new long[] {real.set(), slow.set()};
            case "shown": return new long[] {real.shown(), slow.shown()};
            case "pair": return new long[] {real.pair(k), slow.pair(k)};
            case "greedy": return new long[] {real.greedy(), slow.greedy()};
            case "fits": return new long[] {real.fits(), slow.fits()};
            case "where": return new long[] {real.where(k), slow.where(k)};
            case "against": return new long[] {real.against(a), slow.against(a)};
            case "worst": return new long[] {real.worst(x), slow.worst(x)};
            case "next": return new long[] {real.next(x), slow.next(x)};
            case "mean": return new long[] {real.mean(x), slow.mean(x)};
            case "seek": return new long[] {real.seek(x), slow.seek(x)};
            case "tree": return new long[] {real.tree(), slow.tree()};
            case "clear": return new long[] {real.clear(), slow.clear()};
            case "word":
                int v = random.nextInt(3) == 0 ? random.nextInt(4) : slow.answer(a, b);
                return new long[] {real.word(a, v), slow.word(a, v)};
            case "undo":
                int n = random.nextInt(20) == 0 ? someNumber(0, 60) : random.nextInt(5);
                return new long[] {real.undo(n), slow.undo(n)};
            default:
                int what = random.nextInt(11) - 1;
                return new long[] {real.about(what), slow.about(what)};
        }
    }

    /** A net to begin with: none, a tree, or a tree with rounds in it. */
    private void begin() {
        int posts = 1 + random.nextInt(mostPosts);
        int shape = random.nextInt(4);
        for (int p = 1; p < posts; p++) {
            real.post();
            slow.post();
            int from = shape == 0 ? p - 1 : random.nextInt(p);
            int length = 1 + random.nextInt(mostLength);
            if (shape != 3 || random.nextInt(4) > 0) {
                real.road(p, from, length);
                slow.road(p, from, length);
            }
        }
        for (int i = 0; shape > 1 && i < posts; i++) {
            int a = random.nextInt(posts);
            int b = random.nextInt(posts);
            real.road(a, b, 1);
            slow.road(a, b, 1);
        }
    }

    private String run() {
        begin();
        for (int i = 0; i < CALLS; i++) {
            boolean asks = random.nextInt(3) > 0;
            int pick = asks
                ? ASKS_FROM + random.nextInt(CALL_NAMES.length - ASKS_FROM)
                : random.nextInt(ASKS_FROM);
            String name = CALL_NAMES[pick];
            // The slow one tries 65536 sets for these, so they come seldom in big nets.
            boolean dear = pick >= ASKS_FROM && slow.s.n > 10 && random.nextInt(8) > 0
                && (name.equals("least") || name.equals("every") || name.equals("cheapest"));
            if (dear) {
                continue;
            }
            long[] both = pick < ASKS_FROM ? change(name) : ask(name);
            if (both != null && both[0] != both[1]) {
                return "call " + i + ", " + name + ", answered " + both[0] + ", due is " + both[1];
            }
            if (real.set() != slow.set() || real.about(7) != slow.about(7)) {
                return "call " + i + ", " + name + ", left another set or number of acts";
            }
        }
        return null;
    }

    public static void main(String[] args) {
        int runs = args.length > 0 ? Integer.parseInt(args[0]) : 60;
        int wrong = 0;
        for (int seed = 1; seed <= runs; seed++) {
            String fault = new ModelTest(seed).run();
            if (fault != null) {
                wrong++;
                System.out.println("seed " + seed + ": " + fault);
            }
        }
        System.out.println(wrong == 0 ? "all runs are as due" : wrong + " runs are not as due");
        if (wrong != 0) {
            System.exit(1);
        }
    }
}

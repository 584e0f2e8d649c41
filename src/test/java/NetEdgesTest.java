/**
 * The boundary cases of the net and its acts, promises 1 to 15, 36 and 37 and the terms they use:
 * each of the document's sentences that names one has a method of its own.
 */
public final class NetEdgesTest {
    private static final int MIN = Integer.MIN_VALUE;
    private static final int MAX = Integer.MAX_VALUE;
    private static final int[] NO_POSTS_OF_THREE = {3, 15, 16, 17, 31, 32, 64, 256, 65536, MAX, -1, -2,
        -16, -253, -65536, MIN, MIN + 1};
    private static final Due due = new Due();

    // Promise 1

    private static void newObjectIsAsAtFirst() {
        due.sentence(1, "One POST; KIND 0, NEED 1, YES not wanted; no WORDS, an empty TAPE.");
        WayMarks x = new WayMarks();
        due.is("all", Seen.of(x), "about 1 0 0 0 1 0 0 0 0 set 0 | 0: 0 0 1 1 0 1 against 0 0");
        due.is("way(0, 1)", x.way(0, 1), -1);
        due.is("twins(0)", x.twins(0), -1);
        due.is("clash(0)", x.clash(0), -1);
        due.is("clash(2)", x.clash(2), -2);
        due.is("shown()", x.shown(), 0);
        due.is("fits()", x.fits(), 1);
        due.is("roads(1)", x.roads(1), -1);
        due.is("undo(1)", x.undo(1), -1);
    }

    private static void newObjectsShareNothing() {
        due.sentence(1, "A new object, when there is another one");
        String first = Seen.of(new WayMarks());
        WayMarks busy = Nets.busy();
        due.is("a new one", Seen.of(new WayMarks()), first);
        busy.undo(60);
        due.is("a new one again", Seen.of(new WayMarks()), first);
    }

    // Promise 2

    private static void postsAreSixteen() {
        due.sentence(2, "A POST more: its number");
        WayMarks x = new WayMarks();
        for (int p = 1; p <= 15; p++) {
            due.is("post()", x.post(), p);
            due.is("about(0)", x.about(0), p + 1);
        }
        due.is("way(15, 15)", x.way(15, 15), 0);
        due.is("way(16, 15)", x.way(16, 15), -1);
    }

    private static void postWhenThereAreSixteen() {
        due.sentence(2, "NONE, doing nothing: there are 16.");
        due.refuses(() -> Nets.empty(16), "post()", WayMarks::post, -1);
        WayMarks x = Nets.line(16);
        due.is("post()", x.post(), -1);
        due.is("post() again", x.post(), -1);
        due.is("acts", x.about(7), 30);
        due.is("roads", x.about(1), 15);
        WayMarks y = Nets.empty(16);
        y.post();
        y.undo(1);
        due.is("post() after undo", y.post(), 15);
        due.is("post() of the 17th", y.post(), -1);
    }

    private static void postIsAsAtFirst() {
        due.sentence(2, "REACH 0 at first, PRICE 1 at first, CHANCE 1 at first");
        WayMarks x = new WayMarks();
        x.reach(0, 20000);
        x.price(0, 1000);
        x.chance(0, 100);
        due.is("post()", x.post(), 1);
        due.is("its reach", x.of(1, 1), 0);
        due.is("its price", x.of(1, 2), 1);
        due.is("its chance", x.of(1, 3), 1);
        due.is("its roads", x.of(1, 0), 0);
    }

    private static void postAgainIsAsAtFirst() {
        due.sentence(2, "A POST more, where one was undone that had all");
        WayMarks x = Nets.empty(2);
        x.road(0, 1, 5);
        x.reach(1, 9);
        x.price(1, 9);
        x.chance(1, 9);
        x.word(1, 9);
        x.undo(6);
        x.post();
        due.is("all", Seen.of(x), Seen.of(Nets.empty(2)));
        due.is("road(0, 1, 7)", x.road(0, 1, 7), true);
        due.is("word(1, 5)", x.word(1, 5), 1);
    }

    // Promise 3

    private static void roadOfTheLeastAndMostLength() {
        due.sentence(3, "ROADS of a length 1 .. 1000");
        WayMarks x = Nets.empty(3);
        due.is("road(0, 1, 1)", x.road(0, 1, 1), true);
        due.is("road(1, 2, 1000)", x.road(1, 2, 1000), true);
        due.is("way(0, 1)", x.way(0, 1), 1);
        due.is("way(1, 2)", x.way(1, 2), 1000);
        due.is("acts", x.about(7), 4);
    }

    private static void roadOfAnotherLength() {
        due.sentence(3, "false, doing nothing: it can't be (its length)");
        for (int length : new int[] {0, 1001, -1, -1000, 65537, 1 << 16, 257 << 24, MAX, MIN}) {
            due.refusesFlag(Nets::busy, "road(0, 2, " + length + ")", x -> x.road(0, 2, length));
        }
    }

    private static void roadToNoPost() {
        due.sentence(3, "false, doing nothing: it can't be (a POST that is none)");
        for (int p : NO_POSTS_OF_THREE) {
            due.refusesFlag(Nets::busy, "road(2, " + p + ", 1)", x -> x.road(2, p, 1));
            due.refusesFlag(Nets::busy, "road(" + p + ", 2, 1)", x -> x.road(p, 2, 1));
            due.refusesFlag(Nets::busy, "road(" + p + ", itself, 1)", x -> x.road(p, p, 1));
        }
    }

    private static void roadToItself() {
        due.sentence(3, "ROADS, one at most between two different POSTS");
        for (int p = 0; p < 3; p++) {
            int same = p;
            due.refusesFlag(Nets::busy, "road to itself", x -> x.road(same, same, 1));
        }
    }

    private static void roadWhereThereIsOne() {
        due.sentence(3, "false, doing nothing: there is one between these two");
        due.refusesFlag(Nets::busy, "road(0, 1, 2)", x -> x.road(0, 1, 2));
        due.refusesFlag(Nets::busy, "road(0, 1, 1)", x -> x.road(0, 1, 1));
        due.refusesFlag(Nets::busy, "road(1, 0, 1000)", x -> x.road(1, 0, 1000));
        WayMarks y = Nets.busy();
        y.cut(0, 1);
        due.is("road(1, 0, 9) when it was cut", y.road(1, 0, 9), true);
        due.is("way(0, 1)", y.way(0, 1), 9);
    }

    private static void roadsBetweenAll() {
        due.sentence(3, "one at most between two different POSTS, of sixteen");
        WayMarks x = Nets.full();
        due.is("roads", x.about(1), 120);
        due.is("of(15, 0)", x.of(15, 0), 15);
        due.is("of(15, 4)", x.of(15, 4), 32767);
        due.is("of(0, 4)", x.of(0, 4), 65534);
        int came = 0;
        for (int p = 0; p < 15; p++) {
            came += x.road(15, p, 1) ? 1 : 0;
            came += x.road(p, 15, 1) ? 1 : 0;
        }
        due.is("more of 15", came, 0);
        due.is("way(0, 15)", x.way(0, 15), 15);
        due.is("roads", x.about(1), 120);
    }

    // Promise 4

    private static void cutOfARoad() {
        due.sentence(4, "The ROAD between two is there no more: true");
        WayMarks x = Nets.ring(3);
        due.is("cut(2, 0)", x.cut(2, 0), true);
        due.is("of(0, 4)", x.of(0, 4), 2);
        due.is("of(2, 4)", x.of(2, 4), 2);
        due.is("way(0, 2)", x.way(0, 2), 2);
        due.is("cut(0, 1)", x.cut(0, 1), true);
        due.is("way(0, 2) of none", x.way(0, 2), 1000000);
        due.is("roads", x.about(1), 1);
        WayMarks full = Nets.line(16);
        due.is("cut(15, 14) of the last", full.cut(15, 14), true);
        due.is("of(15, 5)", full.of(15, 5), 1);
    }

    private static void cutOfNone() {
        due.sentence(4, "false if there is none");
        due.refusesFlag(Nets::busy, "cut(0, 2)", x -> x.cut(0, 2));
        due.refusesFlag(Nets::busy, "cut(2, 1)", x -> x.cut(2, 1));
        due.refusesFlag(Nets::busy, "cut(1, 1)", x -> x.cut(1, 1));
        for (int p : NO_POSTS_OF_THREE) {
            due.refusesFlag(Nets::busy, "cut(1, " + p + ")", x -> x.cut(1, p));
            due.refusesFlag(Nets::busy, "cut(" + p + ", 1)", x -> x.cut(p, 1));
            due.refusesFlag(Nets::busy, "cut(" + p + ", itself)", x -> x.cut(p, p));
        }
        WayMarks y = Nets.line(2);
        due.is("cut(0, 1)", y.cut(0, 1), true);
        due.is("cut(0, 1) again", y.cut(0, 1), false);
        due.is("cut(1, 0)", y.cut(1, 0), false);
        due.is("acts", y.about(7), 3);
    }

    // Promise 5

    private static void feedUntilFull() {
        due.sentence(5, "Twenty bytes come behind those on the TAPE: how many there are");
        WayMarks x = new WayMarks();
        for (int bytes = 20; bytes <= 400; bytes += 20) {
            due.is("feed", x.feed(0, 0, 0, 0, 0), bytes);
            due.is("about(8)", x.about(8), bytes);
        }
        due.is("acts", x.about(7), 0);
    }

    private static WayMarks withFullTape() {
        WayMarks x = Nets.empty(16);
        feedHundredRoads(x);
        return x;
    }

    /** Of the 120 pairs of sixteen the first hundred, each of length 300. */
    private static void feedHundredRoads(WayMarks x) {
        int[] five = new int[5];
        int count = 0;
        for (int a = 0; a < 16; a++) {
            for (int b = a + 1; b < 16 && count < 100; b++) {
                five[count % 5] = a << 24 | b << 16 | 300;
                count++;
                if (count % 5 == 0) {
                    x.feed(five[0], five[1], five[2], five[3], five[4]);
                }
            }
        }
    }

    private static void feedBeyondFull() {
        due.sentence(5, "NONE, and nothing comes, if there would be more than 400");
        due.refuses(NetEdgesTest::withFullTape, "feed", x -> x.feed(1, 2, 3, 4, 5), -1);
        WayMarks x = withFullTape();
        due.is("feed", x.feed(-1, -1, -1, -1, -1), -1);
        due.is("feed again", x.feed(-1, -1, -1, -1, -1), -1);
        due.is("roads(400)", x.roads(400), 100);
        due.is("feed when it is empty", x.feed(0, 0, 0, 0, 0), 20);
    }

    private static void feedIsInOrder() {
        due.sentence(5, "behind those on the TAPE, the highest of each first");
        WayMarks x = Nets.empty(16);
        x.feed(0x00010203, 0x02030102, 0x04050001, 0x06070301, 0x08090002);
        x.feed(0x0a0b0304, 0x0c0d0003, 0x0e0f03e8, 0, 0);
        due.is("roads(32)", x.roads(32), 8);
        int[] lengths = {0x203, 0x102, 1, 0x301, 2, 0x304, 3, 1000};
        for (int i = 0; i < lengths.length; i++) {
            due.is("way of the tape's road " + i, x.way(2 * i, 2 * i + 1), lengths[i]);
        }
    }

    private static void feedOfAnyFirstByte() {
        due.sentence(5, "the highest of each first, of the TAPE's first byte too");
        WayMarks x = Nets.empty(16);
        x.feed(0x0f0e0102, 0, 0, 0, 0);
        due.is("roads(4)", x.roads(4), 1);
        due.is("way(14, 15)", x.way(14, 15), 0x102);
        due.is("of(0, 0)", x.of(0, 0), 0);
    }

    private static void feedOfHighBytes() {
        due.sentence(5, "bytes, also those above 127");
        WayMarks x = Nets.empty(3);
        x.feed(0x000100ff, 0x01020180, 0x000200fe, 0, 0);
        due.is("roads(12)", x.roads(12), 3);
        due.is("way(0, 1)", x.way(0, 1), 255);
        due.is("way(1, 2)", x.way(1, 2), 384);
        due.is("way(0, 2)", x.way(0, 2), 254);
        x.feed(MIN, MAX, -1, MIN, MAX);
        due.is("about(8)", x.about(8), 20);
        due.is("roads(20) of no posts", x.roads(20), 0);
    }

    // Promise 6

    /** Two roads that can be, one behind the other, on the tape of a net without any. */
    private static WayMarks withTwoOnTape() {
        WayMarks x = Nets.empty(4);
        x.price(3, 4);
        x.feed(0x00010001, 0x010203e8, 0x02030002, 0, 0);
        return x;
    }

    private static void roadsOfAllOfTheTape() {
        due.sentence(6, "ROADS are read off the first n bytes of the TAPE: how many came");
        WayMarks x = withFullTape();
        due.is("roads(400)", x.roads(400), 100);
        due.is("roads", x.about(1), 100);
        due.is("acts", x.about(7), 16);
        due.is("about(8)", x.about(8), 0);
        due.is("undo(1)", x.undo(1), 1);
        due.is("roads when undone", x.about(1), 0);
        due.is("about(8) when undone", x.about(8), 0);
        WayMarks y = withTwoOnTape();
        due.is("only the first n", y.roads(8), 2);
        due.is("way(2, 3)", y.way(2, 3), 1000000);
    }

    private static void roadsEmptyTheTape() {
        due.sentence(6, "the TAPE, empty then");
        for (int n = 0; n <= 20; n++) {
            WayMarks x = withTwoOnTape();
            x.roads(n);
            due.is("about(8) after roads(" + n + ")", x.about(8), 0);
            due.is("roads(1) after roads(" + n + ")", x.roads(1), -1);
        }
    }

    private static void roadCutOff() {
        due.sentence(6, "until the first that is cut off");
        for (int n = 0; n <= 12; n++) {
            WayMarks x = withTwoOnTape();
            due.is("roads(" + n + ")", x.roads(n), n / 4);
            due.is("roads after roads(" + n + ")", x.about(1), n / 4);
        }
    }

    private static void roadOnTapeThatCanNotBe() {
        due.sentence(6, "each that can be comes, until the first that can't");
        int[] wrong = {0x00040001, 0x04000001, 0x00ff0001, 0xff000001, 0x80000001, 0x00100001, 0x03030001,
            0x00030000, 0x000303e9, 0x0003ffff, 0x00038001, 0x00030400, 0x00010001, 0x01000005};
        for (int road : wrong) {
            WayMarks x = Nets.empty(4);
            x.feed(0x00010001, road, 0x02030001, 0, 0);
            String call = "roads(12) with " + Integer.toHexString(road);
            due.is(call, x.roads(12), 1);
            due.is("way(2, 3) after " + call, x.way(2, 3), 1000000);
            due.is("way(0, 1) after " + call, x.way(0, 1), 1);
            due.is("acts after " + call, x.about(7), 4);
        }
        WayMarks y = Nets.empty(4);
        y.road(2, 3, 8);
        y.feed(0x00010001, 0x03020001, 0x01020001, 0, 0);
        due.is("one that was there before", y.roads(12), 1);
        due.is("it stays as it was", y.way(2, 3), 8);
    }

    private static void roadsAreOneAct() {
        due.sentence(6, "how many came (one act)");
        WayMarks x = withTwoOnTape();
        due.is("roads(12)", x.roads(12), 3);
        due.is("acts", x.about(7), 5);
        due.is("undo(1)", x.undo(1), 1);
        due.is("roads", x.about(1), 0);
        due.is("price of 3", x.of(3, 2), 4);
        due.is("undo(1)", x.undo(1), 1);
        due.is("price of 3", x.of(3, 2), 1);
    }

    private static void roadsOfNoneAreNoAct() {
        due.sentence(6, "how many came (none if 0)");
        for (int n = 0; n <= 3; n++) {
            WayMarks x = withTwoOnTape();
            due.is("roads(" + n + ")", x.roads(n), 0);
            due.is("acts after roads(" + n + ")", x.about(7), 4);
            x.undo(1);
            due.is("price of 3", x.of(3, 2), 1);
        }
        WayMarks y = Nets.line(2);
        y.feed(0x00010001, 0, 0, 0, 0);
        due.is("roads(4) where there is one", y.roads(4), 0);
        due.is("acts", y.about(7), 2);
    }

    private static void roadsOfAnEmptyTape() {
        due.sentence(6, "the first n bytes, n 0, of an empty TAPE");
        WayMarks x = Nets.line(2);
        due.is("roads(0)", x.roads(0), 0);
        due.is("acts", x.about(7), 2);
        due.is("roads", x.about(1), 1);
    }

    private static void roadsOfTooMany() {
        due.sentence(6, "NONE, doing nothing: the TAPE has not n");
        for (int n : new int[] {21, 24, 40, 400, 401, MAX, MAX - 3, -1, -4, MIN, MIN + 20}) {
            due.refuses(Nets::busy, "roads(" + n + ")", x -> x.roads(n), -1);
        }
        for (int n : new int[] {401, 404, MAX, -1}) {
            due.refuses(NetEdgesTest::withFullTape, "roads(" + n + ") of 400", x -> x.roads(n), -1);
        }
        due.refuses(() -> Nets.line(3), "roads(1) of none", x -> x.roads(1), -1);
        due.refuses(() -> Nets.line(3), "roads(-1) of none", x -> x.roads(-1), -1);
    }

    // Promises 7 to 9

    private static void reachAtItsEnds() {
        due.sentence(7, "REACH (0 .. 20000, 0 at first)");
        WayMarks x = Nets.empty(16);
        due.is("at first", x.of(15, 1), 0);
        due.is("reach(15, 20000)", x.reach(15, 20000), true);
        due.is("of(15, 1)", x.of(15, 1), 20000);
        due.is("of(14, 1)", x.of(14, 1), 0);
        due.is("reach(15, 0)", x.reach(15, 0), true);
        due.is("of(15, 1)", x.of(15, 1), 0);
        due.is("acts", x.about(7), 17);
    }

    private static void reachThatCanNotBe() {
        due.sentence(7, "false, doing nothing, if one can't be");
        for (int reach : new int[] {-1, 20001, 65536, -20000, MAX, MIN}) {
            due.refusesFlag(Nets::busy, "reach(1, " + reach + ")", x -> x.reach(1, reach));
        }
        for (int p : NO_POSTS_OF_THREE) {
            due.refusesFlag(Nets::busy, "reach(" + p + ", 1)", x -> x.reach(p, 1));
        }
    }

    private static void priceAtItsEnds() {
        due.sentence(8, "PRICE (1 .. 1000, 1 at first)");
        WayMarks x = Nets.empty(16);
        due.is("at first", x.of(15, 2), 1);
        due.is("price(15, 1000)", x.price(15, 1000), true);
        due.is("of(15, 2)", x.of(15, 2), 1000);
        due.is("of(14, 2)", x.of(14, 2), 1);
        due.is("price(15, 1)", x.price(15, 1), true);
        due.is("of(15, 2)", x.of(15, 2), 1);
        due.is("acts", x.about(7), 17);
    }

    private static void priceThatCanNotBe() {
        due.sentence(8, "likewise: false, doing nothing, if one can't be");
        for (int price : new int[] {0, -1, 1001, 65537, -1000, MAX, MIN}) {
            due.refusesFlag(Nets::busy, "price(1, " + price + ")", x -> x.price(1, price));
        }
        for (int p : NO_POSTS_OF_THREE) {
            due.refusesFlag(Nets::busy, "price(" + p + ", 1)", x -> x.price(p, 1));
        }
    }

    private static void chanceAtItsEnds() {
        due.sentence(9, "CHANCE (0 .. 100, 1 at first)");
        WayMarks x = Nets.empty(16);
        due.is("at first", x.of(15, 3), 1);
        due.is("chance(15, 100)", x.chance(15, 100), true);
        due.is("of(15, 3)", x.of(15, 3), 100);
        due.is("of(14, 3)", x.of(14, 3), 1);
        due.is("chance(15, 0)", x.chance(15, 0), true);
        due.is("of(15, 3)", x.of(15, 3), 0);
        due.is("acts", x.about(7), 17);
    }

    private static void chanceThatCanNotBe() {
        due.sentence(9, "likewise: false, doing nothing, if one can't be");
        for (int chance : new int[] {-1, 101, 256, -100, MAX, MIN}) {
            due.refusesFlag(Nets::busy, "chance(1, " + chance + ")", x -> x.chance(1, chance));
        }
        for (int p : NO_POSTS_OF_THREE) {
            due.refusesFlag(Nets::busy, "chance(" + p + ", 1)", x -> x.chance(p, 1));
        }
    }

    // Promises 10 to 12

    private static void ruleAtItsEnds() {
        due.sentence(10, "r (0 .. 20000) is for WITHIN, 0 for others: true");
        WayMarks x = new WayMarks();
        int[][] good = {{3, 20000}, {4, 0}, {3, 0}, {3, 1}, {0, 0}, {3, 19999}, {1, 0}, {2, 0}, {2, 0}};
        for (int i = 0; i < good.length; i++) {
            String call = "rule(" + good[i][0] + ", " + good[i][1] + ")";
            due.is(call, x.rule(good[i][0], good[i][1]), true);
            due.is("KIND after " + call, x.about(2), good[i][0]);
            due.is("r after " + call, x.about(3), good[i][1]);
            due.is("acts after " + call, x.about(7), i + 1);
        }
    }

    private static void ruleThatCanNotBe() {
        due.sentence(10, "false, doing nothing, if one can't be");
        int[][] wrong = {{-1, 0}, {5, 0}, {MAX, 0}, {MIN, 0}, {3, -1}, {3, 20001}, {3, MAX}, {3, MIN},
            {0, 1}, {1, 1}, {2, 1}, {4, 1}, {0, -1}, {1, -1}, {2, -1}, {4, -1}, {4, 20000}, {5, 20000},
            {259, 0}, {-1, -1}};
        for (int[] w : wrong) {
            due.refusesFlag(Nets::busy, "rule(" + w[0] + ", " + w[1] + ")", x -> x.rule(w[0], w[1]));
        }
    }

    private static void mayAtItsEnds() {
        due.sentence(11, "so many MARKS f (0 .. 3) that may be OUT it is f + 1, that may LIE 2 f + 1");
        WayMarks x = new WayMarks();
        for (int f = 3; f >= 0; f--) {
            due.is("may(" + f + ", true)", x.may(f, true), 2 * f + 1);
            due.is("NEED", x.about(4), 2 * f + 1);
            due.is("may(" + f + ", false)", x.may(f, false), f + 1);
            due.is("NEED", x.about(4), f + 1);
        }
        due.is("acts", x.about(7), 8);
    }

    private static void mayThatCanNotBe() {
        due.sentence(11, "NONE, doing nothing, if f is not 0 .. 3");
        for (int f : new int[] {-1, 4, 5, 256, -3, MAX, MIN}) {
            due.refuses(Nets::busy, "may(" + f + ", false)", x -> x.may(f, false), -1);
            due.refuses(Nets::busy, "may(" + f + ", true)", x -> x.may(f, true), -1);
        }
    }

    private static void wantOfWhatIsSo() {
        due.sentence(12, "Whether YES is wanted (also when it was so before)");
        WayMarks x = new WayMarks();
        x.want(false);
        due.is("about(5)", x.about(5), 0);
        x.want(true);
        x.want(true);
        due.is("about(5)", x.about(5), 1);
        due.is("acts", x.about(7), 3);
        x.undo(1);
        due.is("about(5)", x.about(5), 1);
        x.undo(1);
        due.is("about(5)", x.about(5), 0);
    }

    // Promises 13 to 15

    private static void wayToItself() {
        due.sentence(13, "THE WAY (0 from a POST to itself)");
        WayMarks x = Nets.full();
        for (int p = 0; p < 16; p++) {
            due.is("way(p, p)", x.way(p, p), 0);
        }
        due.is("alone", new WayMarks().way(0, 0), 0);
    }

    private static void wayOfNone() {
        due.sentence(13, "THE WAY is 1000000 if there is none");
        WayMarks x = Nets.empty(16);
        x.road(13, 14, 1000);
        due.is("way(0, 15)", x.way(0, 15), 1000000);
        due.is("way(15, 14)", x.way(15, 14), 1000000);
        due.is("way(13, 14)", x.way(13, 14), 1000);
        due.is("way(13, 0)", x.way(13, 0), 1000000);
    }

    private static void wayOfTheLeastSum() {
        due.sentence(13, "THE WAY between two is the least sum of lengths");
        WayMarks x = Nets.empty(16);
        for (int p = 1; p < 16; p++) {
            x.road(p, p - 1, 1000);
        }
        due.is("the longest there can be", x.way(0, 15), 15000);
        x.road(0, 15, 1000);
        due.is("the other way round", x.way(0, 14), 2000);
        due.is("half of the ring", x.way(0, 8), 8000);
        WayMarks y = Nets.empty(3);
        y.road(0, 2, 3);
        y.road(0, 1, 1);
        y.road(1, 2, 1);
        due.is("over another", y.way(2, 0), 2);
        y.cut(0, 1);
        due.is("by the road itself", y.way(2, 0), 3);
    }

    private static void wayToNoPost() {
        due.sentence(13, "NONE if one is none");
        WayMarks x = Nets.line(3);
        for (int p : NO_POSTS_OF_THREE) {
            due.is("way(0, " + p + ")", x.way(0, p), -1);
            due.is("way(" + p + ", 0)", x.way(p, 0), -1);
            due.is("way(" + p + ", itself)", x.way(p, p), -1);
        }
        x.undo(3);
        due.is("way(0, 2) when 2 is undone", x.way(0, 2), -1);
    }

    private static void ofAPostAlone() {
        due.sentence(14, "how many POSTS a way leads to (it, too)");
        due.is("alone", new WayMarks().of(0, 5), 1);
        WayMarks x = Nets.empty(16);
        due.is("of sixteen alone", x.of(15, 5), 1);
        due.is("its roads", x.of(15, 0), 0);
        due.is("beside it", x.of(15, 4), 0);
        WayMarks line = Nets.line(16);
        due.is("of a line", line.of(15, 5), 16);
        due.is("its roads", line.of(15, 0), 1);
        due.is("beside 14", line.of(14, 4), 32768 + 8192);
        line.cut(7, 8);
        due.is("of half a line", line.of(15, 5), 8);
    }

    private static void ofNoneSuch() {
        due.sentence(14, "NONE if there is none such");
        WayMarks x = Nets.busy();
        for (int what : new int[] {-1, 6, 7, 256, MAX, MIN}) {
            due.is("of(0, " + what + ")", x.of(0, what), -1);
            due.is("of(3, " + what + ")", x.of(3, what), -1);
        }
        for (int p : NO_POSTS_OF_THREE) {
            for (int what = 0; what <= 5; what++) {
                due.is("of(" + p + ", " + what + ")", x.of(p, what), -1);
            }
        }
    }

    private static void answerOfWay() {
        due.sentence(15, "WAY: THE WAY from m to p");
        WayMarks x = Nets.empty(4);
        x.road(0, 1, 1000);
        x.road(1, 2, 1000);
        due.is("answer(0, 0)", x.answer(0, 0), 0);
        due.is("answer(2, 0)", x.answer(2, 0), 2000);
        due.is("answer(0, 3)", x.answer(0, 3), 1000000);
    }

    private static void answerOfNearAndBeside() {
        WayMarks x = Nets.line(3);
        due.sentence(15, "NEAR: 1 if p is m or BESIDE it, else 0");
        x.rule(1, 0);
        due.is("answer(0, 0)", x.answer(0, 0), 1);
        due.is("answer(0, 1)", x.answer(0, 1), 1);
        due.is("answer(0, 2)", x.answer(0, 2), 0);
        due.sentence(15, "BESIDE: 1 if p is BESIDE m, else 0");
        x.rule(2, 0);
        due.is("answer(0, 0)", x.answer(0, 0), 0);
        due.is("answer(0, 1)", x.answer(0, 1), 1);
        due.is("answer(0, 2)", x.answer(0, 2), 0);
    }

    private static void answerOfWithin() {
        due.sentence(15, "WITHIN (of a number r): 1 if THE WAY is at most r, else 0");
        WayMarks x = Nets.empty(4);
        x.road(0, 1, 4);
        x.road(1, 2, 3);
        x.reach(0, 20000);
        int[] numbers = {0, 3, 4, 6, 7, 8, 20000};
        int[] firstFar = {1, 1, 2, 2, 3, 3, 3};
        for (int i = 0; i < numbers.length; i++) {
            x.rule(3, numbers[i]);
            for (int p = 0; p < 4; p++) {
                due.is("r " + numbers[i] + ", answer(0, " + p + ")", x.answer(0, p), p < firstFar[i] ? 1 : 0);
            }
        }
    }

    private static void answerOfLit() {
        due.sentence(15, "LIT: 1 if THE WAY is at most m's REACH, else 0");
        WayMarks x = Nets.empty(4);
        x.road(0, 1, 4);
        x.road(1, 2, 3);
        x.rule(4, 0);
        int[] numbers = {0, 3, 4, 6, 7, 8, 20000};
        int[] firstDark = {1, 1, 2, 2, 3, 3, 3};
        for (int i = 0; i < numbers.length; i++) {
            x.reach(0, numbers[i]);
            for (int p = 0; p < 4; p++) {
                due.is("reach " + numbers[i] + ", answer(0, " + p + ")", x.answer(0, p), p < firstDark[i] ? 1 : 0);
            }
            due.is("1 has no reach", x.answer(1, 0), 0);
            due.is("but for itself", x.answer(1, 1), 1);
        }
    }

    private static void answerOfTheLongestWay() {
        due.sentence(15, "REACH and r up to 20000 light the longest WAY, not one that is none");
        WayMarks x = Nets.empty(16);
        for (int p = 1; p < 15; p++) {
            x.road(p, p - 1, 1000);
        }
        x.rule(3, 14000);
        due.is("within 14000", x.answer(14, 0), 1);
        x.rule(3, 13999);
        due.is("within 13999", x.answer(14, 0), 0);
        x.rule(3, 20000);
        due.is("none within 20000", x.answer(14, 15), 0);
        x.rule(4, 0);
        x.reach(14, 14000);
        due.is("reach 14000", x.answer(14, 0), 1);
        x.reach(14, 13999);
        due.is("reach 13999", x.answer(14, 0), 0);
        x.reach(14, 20000);
        due.is("none by reach 20000", x.answer(14, 15), 0);
    }

    private static void answerOfNoPost() {
        due.sentence(15, "NONE if one is none");
        WayMarks x = Nets.line(3);
        for (int kind = 0; kind <= 4; kind++) {
            x.rule(kind, 0);
            for (int p : NO_POSTS_OF_THREE) {
                due.is("answer(0, " + p + ")", x.answer(0, p), -1);
                due.is("answer(" + p + ", 0)", x.answer(p, 0), -1);
            }
        }
    }

    // Promise 36

    private static void undoOfNone() {
        due.sentence(36, "The latest n acts (0 .. 60), n 0");
        due.refuses(Nets::busy, "undo(0)", x -> x.undo(0), 0);
        due.is("of a new one", new WayMarks().undo(0), 0);
    }

    private static void undoOfMoreThanThereAre() {
        due.sentence(36, "NONE, doing nothing, if there are not so many");
        // busy() has two posts and eight acts more.
        for (int n : new int[] {11, 12, 60, 61, 256, MAX, -1, -2, -60, MIN}) {
            due.refuses(Nets::busy, "undo(" + n + ")", x -> x.undo(n), -1);
        }
        WayMarks y = Nets.busy();
        due.is("undo(10)", y.undo(10), 10);
        due.is("posts", y.about(0), 1);
        due.is("undo(1)", y.undo(1), -1);
        due.is("undo(0)", y.undo(0), 0);
    }

    private static WayMarks priced(int acts) {
        WayMarks x = new WayMarks();
        for (int i = 1; i <= acts; i++) {
            x.price(0, i);
        }
        return x;
    }

    private static void undoOfSixty() {
        due.sentence(36, "UNDONE they are from the latest on, the last 60");
        for (int acts = 58; acts <= 62; acts++) {
            WayMarks x = priced(acts);
            int can = Math.min(acts, 60);
            due.is("acts of " + acts, x.about(7), can);
            due.is("undo(61) of " + acts, x.undo(61), -1);
            due.is("undo(60) of " + acts, x.undo(60), acts < 60 ? -1 : 60);
            due.is("price of " + acts, x.of(0, 2), acts < 60 ? acts : Math.max(acts - 60, 1));
            due.is("acts left of " + acts, x.about(7), acts < 60 ? acts : 0);
        }
    }

    private static void undoGoesRound() {
        due.sentence(36, "the last 60, however many there were before");
        for (int acts : new int[] {60, 61, 119, 120, 121, 179, 180, 181, 240, 300}) {
            WayMarks x = priced(acts);
            due.is("undo(1) of " + acts, x.undo(1), 1);
            due.is("price", x.of(0, 2), acts - 1);
            due.is("undo(58)", x.undo(58), 58);
            due.is("price", x.of(0, 2), Math.max(acts - 59, 1));
            due.is("undo(2)", x.undo(2), -1);
            due.is("undo(1)", x.undo(1), 1);
            due.is("price", x.of(0, 2), Math.max(acts - 60, 1));
            due.is("undo(1)", x.undo(1), -1);
            due.is("price", x.of(0, 2), Math.max(acts - 60, 1));
        }
    }

    private static void actsAfterUndo() {
        due.sentence(36, "The latest n acts, when some were UNDONE before");
        WayMarks x = priced(90);
        x.undo(30);
        due.is("acts", x.about(7), 30);
        for (int i = 1; i <= 30; i++) {
            x.price(0, 500 + i);
            due.is("acts", x.about(7), 30 + i);
        }
        x.price(0, 600);
        due.is("acts", x.about(7), 60);
        due.is("undo(31)", x.undo(31), 31);
        due.is("price", x.of(0, 2), 60);
        due.is("undo(29)", x.undo(29), 29);
        due.is("price", x.of(0, 2), 31);
        due.is("undo(1)", x.undo(1), -1);
    }

    private static void undoOfEachAct() {
        due.sentence(36, "Acts are: post, road, cut, reach, price, chance, rule, may, want, word, clear, roads");
        Due.ToFlag[] acts = {x -> x.post() >= 0, x -> x.road(0, 2, 3), x -> x.cut(0, 1),
            x -> x.reach(2, 8), x -> x.price(0, 8), x -> x.chance(2, 8), x -> x.rule(1, 0),
            x -> x.may(3, false) >= 0, x -> wants(x, false), x -> x.word(2, 1) >= 0, x -> x.clear() >= 0};
        String before = Seen.of(Nets.busy());
        for (int i = 0; i < acts.length; i++) {
            WayMarks x = Nets.busy();
            due.is("act " + i, acts[i].of(x), true);
            due.is("acts after act " + i, x.about(7), 11);
            due.is("act " + i + " is seen", Seen.of(x).equals(before), false);
            due.is("undo(1) of act " + i, x.undo(1), 1);
            due.is("all after undo of act " + i, Seen.of(x), before);
        }
        WayMarks y = Nets.busy();
        due.is("roads(8)", y.roads(8), 2);
        due.is("acts after roads(8)", y.about(7), 11);
        due.is("undo(1) of roads", y.undo(1), 1);
        due.is("roads", y.about(1), 1);
        due.is("way(0, 2)", y.way(0, 2), 1000000);
    }

    private static boolean wants(WayMarks x, boolean yes) {
        x.want(yes);
        return true;
    }

    private static void othersAreNoActs() {
        due.sentence(36, "Acts are these alone, when they were done");
        WayMarks x = Nets.busy();
        x.feed(0, 0, 0, 0, 0);
        x.least();
        x.every();
        x.cheapest();
        x.greedy();
        x.shown();
        x.worst(7);
        x.next(7);
        x.mean(7);
        x.seek(7);
        x.tree();
        x.fits();
        x.undo(0);
        x.roads(0);
        due.is("acts", x.about(7), 10);
        due.is("undo(1)", x.undo(1), 1);
        due.is("the word is gone", x.about(6), 0);
        x.undo(1);
        due.is("undo is none", x.about(7), 8);
        due.is("yes is not wanted", x.about(5), 0);
    }

    private static void tapeStaysWithUndo() {
        due.sentence(36, "feed is no act");
        WayMarks x = Nets.empty(3);
        x.price(0, 5);
        x.feed(0x00010007, 0, 0, 0, 0);
        due.is("undo(1)", x.undo(1), 1);
        due.is("about(8)", x.about(8), 20);
        due.is("roads(4)", x.roads(4), 1);
        due.is("way(0, 1)", x.way(0, 1), 7);
    }

    // Promise 37

    private static void aboutAtTheLeast() {
        due.sentence(37, "each at the least it can be");
        int[] least = {1, 0, 0, 0, 1, 0, 0, 0, 0};
        for (int what = 0; what < least.length; what++) {
            due.is("about(" + what + ")", new WayMarks().about(what), least[what]);
        }
    }

    private static void aboutAtTheMost() {
        due.sentence(37, "each at the most it can be");
        WayMarks x = Nets.full();
        for (int i = 0; i < 20; i++) {
            x.feed(0, 0, 0, 0, 0);
        }
        for (int p = 0; p < 16; p++) {
            x.word(p, p);
        }
        x.rule(3, 20000);
        x.may(3, true);
        x.want(true);
        int[] most = {16, 120, 3, 20000, 7, 1, 16, 60, 400};
        for (int what = 0; what < most.length; what++) {
            due.is("about(" + what + ")", x.about(what), most[what]);
        }
        x.rule(4, 0);
        due.is("the last KIND", x.about(2), 4);
    }

    private static void aboutOfAnother() {
        due.sentence(37, "NONE for another what");
        WayMarks x = Nets.busy();
        for (int what : new int[] {-1, 9, 10, 16, 256, 264, -8, MAX, MIN}) {
            due.is("about(" + what + ")", x.about(what), -1);
        }
    }

    private static void netItself() {
        newObjectIsAsAtFirst();
        newObjectsShareNothing();
        postsAreSixteen();
        postWhenThereAreSixteen();
        postIsAsAtFirst();
        postAgainIsAsAtFirst();
        roadOfTheLeastAndMostLength();
        roadOfAnotherLength();
        roadToNoPost();
        roadToItself();
        roadWhereThereIsOne();
        roadsBetweenAll();
        cutOfARoad();
        cutOfNone();
        feedUntilFull();
        feedBeyondFull();
        feedIsInOrder();
        feedOfAnyFirstByte();
        feedOfHighBytes();
        roadsOfAllOfTheTape();
        roadsEmptyTheTape();
        roadCutOff();
        roadOnTapeThatCanNotBe();
        roadsAreOneAct();
        roadsOfNoneAreNoAct();
        roadsOfAnEmptyTape();
        roadsOfTooMany();
    }

    private static void settings() {
        reachAtItsEnds();
        reachThatCanNotBe();
        priceAtItsEnds();
        priceThatCanNotBe();
        chanceAtItsEnds();
        chanceThatCanNotBe();
        ruleAtItsEnds();
        ruleThatCanNotBe();
        mayAtItsEnds();
        mayThatCanNotBe();
        wantOfWhatIsSo();
    }

    private static void askedOfTheNet() {
        wayToItself();
        wayOfNone();
        wayOfTheLeastSum();
        wayToNoPost();
        ofAPostAlone();
        ofNoneSuch();
        answerOfWay();
        answerOfNearAndBeside();
        answerOfWithin();
        answerOfLit();
        answerOfTheLongestWay();
        answerOfNoPost();
    }

    private static void undoneAndTold() {
        undoOfNone();
        undoOfMoreThanThereAre();
        undoOfSixty();
        undoGoesRound();
        actsAfterUndo();
        undoOfEachAct();
        othersAreNoActs();
        tapeStaysWithUndo();
        aboutAtTheLeast();
        aboutAtTheMost();
        aboutOfAnother();
    }

    public static void main(String[] args) {
        netItself();
        settings();
        askedOfTheNet();
        undoneAndTold();
        due.end();
    }
}

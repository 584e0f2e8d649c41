/** Promises 1 to 15, 36 and 37: the net, its posts and roads, and what acts do. */
public final class NetPromisesTest {
    private static final Due due = new Due();

    private static void newObject() {
        due.promise(1);
        WayMarks x = new WayMarks();
        int[] first = {1, 0, 0, 0, 1, 0, 0, 0, 0};
        for (int what = 0; what < first.length; what++) {
            due.is("new about(" + what + ")", x.about(what), first[what]);
        }
        int[] ofFirst = {0, 0, 1, 1, 0, 1};
        for (int what = 0; what < ofFirst.length; what++) {
            due.is("new of(0, " + what + ")", x.of(0, what), ofFirst[what]);
        }
        due.is("new set()", x.set(), 0);
        due.is("new fits()", x.fits(), 1);
        due.is("new undo(1)", x.undo(1), -1);
        due.is("new roads(1)", x.roads(1), -1);
        due.is("NONE", WayMarks.NONE, -1);
    }

    private static void post() {
        due.promise(2);
        WayMarks x = new WayMarks();
        for (int p = 1; p < 16; p++) {
            due.is("post()", x.post(), p);
        }
        due.is("post() of the 17th", x.post(), -1);
        due.is("about(0)", x.about(0), 16);
        due.is("acts", x.about(7), 15);
        WayMarks y = Nets.empty(2);
        y.reach(1, 9);
        y.price(1, 9);
        y.chance(1, 9);
        y.undo(4);
        y.post();
        due.is("reach of a new post", y.of(1, 1), 0);
        due.is("price of a new post", y.of(1, 2), 1);
        due.is("chance of a new post", y.of(1, 3), 1);
    }

    private static void road() {
        due.promise(3);
        WayMarks x = Nets.empty(3);
        due.is("road(0, 1, 1)", x.road(0, 1, 1), true);
        due.is("road(1, 2, 1000)", x.road(1, 2, 1000), true);
        int[][] wrong = {{0, 1, 5}, {1, 0, 5}, {0, 0, 5}, {0, 2, 0}, {0, 2, -1}, {0, 2, 1001},
            {0, 3, 5}, {3, 0, 5}, {-1, 0, 5}, {0, -1, 5}, {16, 0, 5},
            {Integer.MAX_VALUE, 0, 5}, {0, Integer.MIN_VALUE, 5}, {0, 2, Integer.MAX_VALUE}};
        for (int[] w : wrong) {
            due.is("road(" + w[0] + ", " + w[1] + ", " + w[2] + ")", x.road(w[0], w[1], w[2]), false);
        }
        due.is("roads", x.about(1), 2);
        due.is("acts", x.about(7), 4);
        due.is("way(0, 2)", x.way(0, 2), 1001);
    }

    private static void cut() {
        due.promise(4);
        WayMarks x = Nets.ring(3);
        due.is("cut(1, 0)", x.cut(1, 0), true);
        due.is("cut(0, 1)", x.cut(0, 1), false);
        due.is("way(0, 1)", x.way(0, 1), 2);
        due.is("roads", x.about(1), 2);
        due.is("cut(0, 0)", x.cut(0, 0), false);
        due.is("cut(0, 3)", x.cut(0, 3), false);
        due.is("cut(-1, 0)", x.cut(-1, 0), false);
        due.is("cut(0, 16)", x.cut(0, 16), false);
        due.is("acts", x.about(7), 6);
        due.is("cut(0, 2)", x.cut(0, 2), true);
        due.is("way(0, 1) when cut off", x.way(0, 1), 1000000);
        due.is("undo(2)", x.undo(2), 2);
        due.is("way(0, 1) again", x.way(0, 1), 1);
    }

    private static void feed() {
        due.promise(5);
        WayMarks x = Nets.empty(3);
        for (int i = 1; i <= 20; i++) {
            due.is("feed", x.feed(0x00010203, -1, 0, 0, 0), 20 * i);
        }
        due.is("feed beyond 400", x.feed(1, 2, 3, 4, 5), -1);
        due.is("about(8)", x.about(8), 400);
        due.is("feed is no act", x.about(7), 2);
        due.is("roads(4)", x.roads(4), 1);
        due.is("the highest byte first", x.way(0, 1), 0x203);
        due.is("feed after roads", x.feed(1, 2, 3, 4, 5), 20);
    }

    private static void roads() {
        due.promise(6);
        WayMarks x = Nets.empty(4);
        x.feed(0x000103e8, 0x01020001, 0x000203e9, 0x02030001, 0);
        due.is("roads(21)", x.roads(21), -1);
        due.is("roads(-1)", x.roads(-1), -1);
        due.is("the tape stays", x.about(8), 20);
        due.is("roads(20): the third can't be", x.roads(20), 2);
        due.is("the tape is empty", x.about(8), 0);
        due.is("roads", x.about(1), 2);
        due.is("way(0, 2)", x.way(0, 2), 1001);
        due.is("one act", x.about(7), 4);
        due.is("undo(1)", x.undo(1), 1);
        due.is("both are gone", x.about(1), 0);
        due.is("the tape stays empty", x.about(8), 0);

        x.feed(0x00010001, 0x01020001, 0x02030001, 0, 0);
        due.is("roads(11): cut off", x.roads(11), 2);
        due.is("the rest of the tape is gone", x.about(8), 0);
        x.feed(0x00010001, 0x02030001, 0, 0, 0);
        due.is("roads(8): there is one", x.roads(8), 0);
        due.is("none is no act", x.about(7), 4);
        due.is("the tape is empty after none", x.about(8), 0);
        x.feed(0x02030001, 0, 0, 0, 0);
        due.is("roads(0)", x.roads(0), 0);
        due.is("the tape is empty after roads(0)", x.about(8), 0);
        due.is("roads(0) of an empty tape", x.roads(0), 0);
        due.is("acts", x.about(7), 4);
        x.feed(0xff000001, 0x02030001, 0, 0, 0);
        due.is("a byte of 255 is no post", x.roads(8), 0);
        x.feed(0x01010001, 0x02030001, 0, 0, 0);
        due.is("a post and itself", x.roads(8), 0);
        x.feed(0x02030000, 0, 0, 0, 0);
        due.is("a length of 0", x.roads(4), 0);
        x.feed(0x02030001, 0x03020002, 0, 0, 0);
        due.is("one twice on the tape", x.roads(8), 1);
    }

    private static void reachPriceChance() {
        WayMarks x = Nets.empty(2);
        due.promise(7);
        due.is("reach(1, 0)", x.reach(1, 0), true);
        due.is("reach(1, 20000)", x.reach(1, 20000), true);
        due.is("reach(1, 20001)", x.reach(1, 20001), false);
        due.is("reach(1, -1)", x.reach(1, -1), false);
        due.is("reach(2, 1)", x.reach(2, 1), false);
        due.is("reach(-1, 1)", x.reach(-1, 1), false);
        due.is("of(1, 1)", x.of(1, 1), 20000);
        due.is("of(0, 1)", x.of(0, 1), 0);
        due.promise(8);
        due.is("price(1, 1)", x.price(1, 1), true);
        due.is("price(1, 1000)", x.price(1, 1000), true);
        due.is("price(1, 1001)", x.price(1, 1001), false);
        due.is("price(1, 0)", x.price(1, 0), false);
        due.is("price(2, 1)", x.price(2, 1), false);
        due.is("price(-1, 1)", x.price(-1, 1), false);
        due.is("of(1, 2)", x.of(1, 2), 1000);
        due.is("of(0, 2)", x.of(0, 2), 1);
        due.promise(9);
        due.is("chance(1, 0)", x.chance(1, 0), true);
        due.is("chance(1, 100)", x.chance(1, 100), true);
        due.is("chance(1, 101)", x.chance(1, 101), false);
        due.is("chance(1, -1)", x.chance(1, -1), false);
        due.is("chance(2, 1)", x.chance(2, 1), false);
        due.is("chance(-1, 1)", x.chance(-1, 1), false);
        due.is("of(1, 3)", x.of(1, 3), 100);
        due.is("of(0, 3)", x.of(0, 3), 1);
        due.is("acts", x.about(7), 7);
        due.is("undo(5)", x.undo(5), 5);
        due.is("reach is back", x.of(1, 1), 0);
        due.is("price is back", x.of(1, 2), 1);
        due.is("chance is back", x.of(1, 3), 1);
    }

    private static void ruleMayWant() {
        WayMarks x = new WayMarks();
        due.promise(10);
        for (int kind = 0; kind <= 4; kind++) {
            due.is("rule(" + kind + ", 0)", x.rule(kind, 0), true);
            due.is("kind", x.about(2), kind);
            due.is("rule(" + kind + ", 1)", x.rule(kind, 1), kind == 3);
        }
        due.is("rule(3, 20000)", x.rule(3, 20000), true);
        due.is("rule(3, 20001)", x.rule(3, 20001), false);
        due.is("rule(3, -1)", x.rule(3, -1), false);
        due.is("rule(5, 0)", x.rule(5, 0), false);
        due.is("rule(-1, 0)", x.rule(-1, 0), false);
        due.is("r", x.about(3), 20000);
        due.is("rule(1, 0)", x.rule(1, 0), true);
        due.is("r of another kind", x.about(3), 0);
        due.is("acts", x.about(7), 8);
        due.is("undo(1)", x.undo(1), 1);
        due.is("kind is back", x.about(2), 3);
        due.is("r is back", x.about(3), 20000);
        due.promise(11);
        for (int f = 0; f <= 3; f++) {
            due.is("may(" + f + ", false)", x.may(f, false), f + 1);
            due.is("need", x.about(4), f + 1);
            due.is("may(" + f + ", true)", x.may(f, true), 2 * f + 1);
            due.is("need", x.about(4), 2 * f + 1);
        }
        due.is("may(4, true)", x.may(4, true), -1);
        due.is("may(-1, false)", x.may(-1, false), -1);
        due.is("need stays", x.about(4), 7);
        due.is("acts", x.about(7), 15);
        due.promise(12);
        x.want(true);
        due.is("wanted", x.about(5), 1);
        x.want(true);
        due.is("each is an act", x.about(7), 17);
        x.want(false);
        due.is("not wanted", x.about(5), 0);
        x.undo(1);
        due.is("wanted again", x.about(5), 1);
        x.undo(2);
        due.is("not wanted at first", x.about(5), 0);
    }

    private static void wayAndOf() {
        due.promise(13);
        WayMarks x = Nets.empty(5);
        x.road(0, 1, 10);
        x.road(0, 2, 3);
        x.road(2, 1, 4);
        x.road(1, 3, 1000);
        due.is("way(0, 1) over 2", x.way(0, 1), 7);
        due.is("way(1, 0)", x.way(1, 0), 7);
        due.is("way(3, 0)", x.way(3, 0), 1007);
        due.is("way(4, 0)", x.way(4, 0), 1000000);
        due.is("way(4, 4)", x.way(4, 4), 0);
        due.is("way(5, 0)", x.way(5, 0), -1);
        due.is("way(0, 5)", x.way(0, 5), -1);
        due.is("way(-1, 0)", x.way(-1, 0), -1);
        due.promise(14);
        due.is("of(1, 0)", x.of(1, 0), 3);
        due.is("of(4, 0)", x.of(4, 0), 0);
        due.is("of(1, 4)", x.of(1, 4), 13);
        due.is("of(4, 4)", x.of(4, 4), 0);
        due.is("of(3, 5)", x.of(3, 5), 4);
        due.is("of(4, 5)", x.of(4, 5), 1);
        due.is("of(1, 6)", x.of(1, 6), -1);
        due.is("of(1, -1)", x.of(1, -1), -1);
        due.is("of(5, 0)", x.of(5, 0), -1);
        due.is("of(-1, 5)", x.of(-1, 5), -1);
        WayMarks far = Nets.empty(16);
        for (int p = 1; p < 16; p++) {
            far.road(p - 1, p, 1000);
        }
        due.promise(13);
        due.is("the longest way", far.way(15, 0), 15000);
        due.is("over 0", Nets.star(2).way(1, 2), 2);
    }

    private static void answers() {
        due.promise(15);
        WayMarks x = Nets.empty(4);
        x.road(0, 1, 2);
        x.road(1, 2, 3);
        x.reach(0, 2);
        int[][] rules = {{0, 0}, {1, 0}, {2, 0}, {3, 5}, {3, 4}, {4, 0}};
        int[][] want = {{0, 2, 5, 1000000}, {1, 1, 0, 0}, {0, 1, 0, 0}, {1, 1, 1, 0}, {1, 1, 0, 0},
            {1, 1, 0, 0}};
        for (int i = 0; i < rules.length; i++) {
            x.rule(rules[i][0], rules[i][1]);
            for (int p = 0; p < 4; p++) {
                due.is("kind " + rules[i][0] + " answer(0, " + p + ")", x.answer(0, p), want[i][p]);
            }
        }
        due.is("lit goes by the mark's reach", x.answer(1, 0), 0);
        due.is("lit itself", x.answer(1, 1), 1);
        due.is("answer(4, 0)", x.answer(4, 0), -1);
        due.is("answer(0, 4)", x.answer(0, 4), -1);
        due.is("answer(-1, 0)", x.answer(-1, 0), -1);
        due.is("answer(0, -1)", x.answer(0, -1), -1);
        x.rule(3, 20000);
        due.is("no way is within nothing", x.answer(0, 3), 0);
        x.rule(3, 0);
        due.is("itself is within 0", x.answer(0, 0), 1);
        due.is("another is not", x.answer(0, 1), 0);
    }

    private static void undo() {
        due.promise(36);
        WayMarks x = new WayMarks();
        for (int i = 1; i <= 70; i++) {
            x.price(0, i);
        }
        due.is("acts are 60 at most", x.about(7), 60);
        due.is("undo(61)", x.undo(61), -1);
        due.is("undo(-1)", x.undo(-1), -1);
        due.is("nothing was done", x.of(0, 2), 70);
        due.is("undo(0)", x.undo(0), 0);
        due.is("undo(25)", x.undo(25), 25);
        due.is("price", x.of(0, 2), 45);
        due.is("acts left", x.about(7), 35);
        due.is("undo(36)", x.undo(36), -1);
        x.price(0, 900);
        due.is("undo(36) after one more", x.undo(36), 36);
        due.is("price", x.of(0, 2), 10);
        due.is("older acts can't be undone", x.undo(1), -1);
        due.is("acts left", x.about(7), 0);

        WayMarks y = Nets.line(3);
        y.rule(1, 0);
        y.may(1, true);
        y.want(true);
        y.word(0, 1);
        y.word(1, -7);
        y.clear();
        y.word(0, 0);
        y.cut(0, 1);
        due.is("undo(1): cut", y.undo(1), 1);
        due.is("way(0, 2)", y.way(0, 2), 2);
        due.is("undo(1): word", y.undo(1), 1);
        due.is("words", y.about(6), 0);
        due.is("undo(1): clear", y.undo(1), 1);
        due.is("words", y.about(6), 2);
        due.is("against(0)", y.against(0), 2);
        due.is("undo(5)", y.undo(5), 5);
        due.is("kind", y.about(2), 0);
        due.is("need", y.about(4), 1);
        due.is("yes", y.about(5), 0);
        due.is("words", y.about(6), 0);
        due.is("undo(4)", y.undo(4), 4);
        due.is("posts", y.about(0), 1);
        due.is("way(0, 1)", y.way(0, 1), -1);
    }

    private static void about() {
        due.promise(37);
        WayMarks x = Nets.ring(4);
        x.rule(3, 17);
        x.may(3, true);
        x.want(true);
        x.word(2, 1);
        x.feed(0, 0, 0, 0, 0);
        int[] want = {4, 4, 3, 17, 7, 1, 1, 11, 20};
        for (int what = 0; what < want.length; what++) {
            due.is("about(" + what + ")", x.about(what), want[what]);
        }
        due.is("about(9)", x.about(9), -1);
        due.is("about(-1)", x.about(-1), -1);
        due.is("about(2147483647)", x.about(Integer.MAX_VALUE), -1);
    }

    public static void main(String[] args) {
        newObject();
        post();
        road();
        cut();
        feed();
        roads();
        reachPriceChance();
        ruleMayWant();
        wayAndOf();
        answers();
        undo();
        about();
        due.end();
    }
}

/**
 * The boundary cases of what marks tell, promises 16 to 35 and the terms they use: each of the
 * document's sentences that names one has a method of its own.
 */
public final class MarkEdgesTest {
    private static final int MIN = Integer.MIN_VALUE;
    private static final int MAX = Integer.MAX_VALUE;
    private static final int ALL = 65535;
    private static final int[] NO_POSTS_OF_THREE = {3, 15, 16, 17, 31, 32, 64, 256, 65536, MAX, -1, -2,
        -16, -253, -65536, MIN, MIN + 1};
    private static final int[] NO_SETS_OF_THREE = {8, 9, 15, 16, 256, 65535, 65536, 65543, 1 << 30, MAX,
        -1, -8, -7, MIN, MIN + 1, MIN + 7};
    private static final Due due = new Due();

    /** By BESIDE all posts of a net without roads are twins. */
    private static WayMarks allTwins(int posts) {
        WayMarks x = Nets.empty(posts);
        x.rule(2, 0);
        return x;
    }

    // Promise 16

    private static void partsOfNoMarksAndOfAll() {
        due.sentence(16, "How many MARKS of a set PART two different POSTS");
        WayMarks x = Nets.empty(16);
        due.is("no marks", x.parts(0, 0, 15), 0);
        due.is("all marks", x.parts(ALL, 14, 15), 2);
        due.is("all marks, the other way round", x.parts(ALL, 15, 14), 2);
        due.is("the last mark", x.parts(32768, 14, 15), 1);
        due.is("all but those two", x.parts(16383, 14, 15), 0);
        WayMarks line = Nets.line(16);
        due.is("all marks of a line", line.parts(ALL, 0, 15), 16);
        due.is("all but the middle", line.parts(ALL, 13, 15), 15);
        due.is("twins", allTwins(16).parts(ALL, 0, 15), 0);
    }

    private static void partsOfNoPost() {
        due.sentence(16, "NONE if one is none");
        WayMarks x = Nets.line(3);
        for (int p : NO_POSTS_OF_THREE) {
            due.is("parts(7, 0, " + p + ")", x.parts(7, 0, p), -1);
            due.is("parts(7, " + p + ", 0)", x.parts(7, p, 0), -1);
            due.is("parts(0, " + p + ", itself)", x.parts(0, p, p), -1);
        }
    }

    private static void partsOfOnePost() {
        due.sentence(16, "NONE if both are one");
        WayMarks x = Nets.line(3);
        for (int p = 0; p < 3; p++) {
            due.is("parts(7, p, p)", x.parts(7, p, p), -1);
            due.is("parts(0, p, p)", x.parts(0, p, p), -1);
        }
    }

    private static void partsOfOthersThanPosts() {
        due.sentence(16, "NONE if the set has others than POSTS");
        WayMarks x = Nets.line(3);
        for (int set : NO_SETS_OF_THREE) {
            due.is("parts(" + set + ", 0, 1)", x.parts(set, 0, 1), -1);
        }
        WayMarks full = Nets.empty(16);
        due.is("parts(65536, 0, 1)", full.parts(65536, 0, 1), -1);
        due.is("parts(-1, 0, 1)", full.parts(-1, 0, 1), -1);
        due.is("parts(-65536, 0, 1)", full.parts(-65536, 0, 1), -1);
    }

    // Promise 17

    private static void clashWithJustAsManyAsNeeded() {
        due.sentence(17, "A set TELLS ALL if of each pair that is not TWINS NEED of its MARKS or more PART it");
        // In a line of 8 a pair with one just in the middle is parted by 7, others by all.
        WayMarks x = Nets.line(8);
        x.may(3, true);
        due.is("need 7, all 8", x.clash(255), -1);
        due.is("need 7, all but the last", x.clash(127), 2);
        due.is("need 7, all but the first", x.clash(254), 2);
        // 1 lies between 0 and 2, so that all others part these; but of 0 and 4 it would be the seventh.
        due.is("need 7, all but the second", x.clash(253), 4);
        x.may(2, true);
        due.is("need 5, six of them", x.clash(63), -1);
        due.is("need 5, five of them", x.clash(31), 2);
        WayMarks seven = Nets.line(7);
        seven.may(3, true);
        due.is("need 7 of 7", seven.clash(127), 2);
    }

    private static void clashOfTheEmptySet() {
        due.sentence(17, "the first pair that lacks, told as 16 * a + b");
        due.is("one post", new WayMarks().clash(0), -1);
        due.is("two posts", Nets.empty(2).clash(0), 1);
        due.is("all twins", allTwins(16).clash(0), -1);
        WayMarks x = Nets.empty(16);
        due.is("none of 16", x.clash(0), 1);
        due.is("0 alone", x.clash(1), 16 + 2);
        due.is("the last two are not parted", x.clash(16383), 14 * 16 + 15);
        due.is("all but the last", x.clash(32767), -1);
        due.is("all but the first two", x.clash(ALL - 3), 1);
        due.is("all but the first and the last", x.clash(32766), 15);
    }

    private static void clashOfTwins() {
        due.sentence(17, "each pair that is not TWINS");
        WayMarks star = Nets.star(15);
        star.rule(2, 0);
        due.is("no marks", star.clash(0), 1);
        due.is("the middle", star.clash(1), -1);
        due.is("a leaf", star.clash(32768), -1);
        star.may(3, true);
        due.is("need 7, six leaves and the middle", star.clash(127), -1);
        due.is("need 7, six", star.clash(126), 1);
    }

    private static void clashOfYes() {
        due.sentence(17, "if none does, 1000 and the first POST that lacks");
        WayMarks x = Nets.empty(16);
        due.is("yes not wanted", x.clash(32767), -1);
        x.want(true);
        due.is("the last lacks", x.clash(32767), 1015);
        due.is("the first lacks", x.clash(ALL - 1), 1000);
        due.is("none lacks", x.clash(ALL), -1);
        due.is("a pair comes first", x.clash(16383), 14 * 16 + 15);
        WayMarks one = new WayMarks();
        one.want(true);
        due.is("one post, no mark", one.clash(0), 1000);
        due.is("one post, its mark", one.clash(1), -1);
        one.may(1, false);
        due.is("one post, two needed", one.clash(1), 1000);
    }

    private static void yesAsManyAsNeeded() {
        due.sentence(17, "if YES is wanted, each POST has as many YES of its MARKS");
        WayMarks x = Nets.line(8);
        x.rule(3, 20000);
        x.want(true);
        x.may(3, true);
        due.is("need 7, seven say yes", x.clash(127), -1);
        due.is("need 7, six do", x.clash(63), 1000);
        x.may(3, false);
        due.is("need 4, four do", x.clash(240), -1);
        due.is("need 4, three do", x.clash(224), 1000);
    }

    private static void yesOfEachKind() {
        due.sentence(17, "YES is each ANSWER but 0, of WAY each but 1000000");
        int[] least = {1, 1, -2, 1, 1};
        for (int kind = 0; kind <= 4; kind++) {
            WayMarks x = new WayMarks();
            x.want(true);
            x.rule(kind, 0);
            due.is("one post, its mark, KIND " + kind, x.clash(1), kind == 2 ? 1000 : -1);
            due.is("least() of KIND " + kind, x.least(), least[kind]);
        }
        WayMarks far = Nets.empty(2);
        far.want(true);
        due.is("a way that is none", far.clash(1), 1001);
        far.road(0, 1, 1000);
        due.is("a way of 1000", far.clash(1), -1);
    }

    private static void clashOfOthersThanPosts() {
        due.sentence(17, "-2 if it has others than POSTS");
        WayMarks x = Nets.line(3);
        for (int set : NO_SETS_OF_THREE) {
            due.is("clash(" + set + ")", x.clash(set), -2);
        }
        due.is("clash(65536) of 16", Nets.empty(16).clash(65536), -2);
        due.is("clash(2) of one", new WayMarks().clash(2), -2);
    }

    // Promise 18

    private static void twinsInOrder() {
        due.sentence(18, "The k-th pair of TWINS; pairs are in order by a, then b");
        WayMarks x = allTwins(16);
        int k = 0;
        for (int a = 0; a < 16; a++) {
            for (int b = a + 1; b < 16; b++) {
                due.is("twins(" + k + ")", x.twins(k), 16 * a + b);
                k++;
            }
        }
        due.is("the last is the 120th", x.twins(119), 239);
        due.is("twins(120)", x.twins(120), -1);
    }

    private static void twinsOfNoneSuch() {
        due.sentence(18, "NONE if there is none such");
        WayMarks x = allTwins(3);
        due.is("twins(2)", x.twins(2), 18);
        for (int k : new int[] {3, 4, 256, MAX, -1, -3, MIN}) {
            due.is("twins(" + k + ")", x.twins(k), -1);
        }
        due.is("of one post", new WayMarks().twins(0), -1);
        due.is("of none", Nets.empty(16).twins(0), -1);
    }

    private static void twinsAnyMarkParts() {
        due.sentence(18, "TWINS are two POSTS that no MARK, at whatever POST, PARTS");
        WayMarks x = Nets.line(2);
        x.rule(4, 0);
        x.reach(0, 1);
        x.reach(1, 1);
        due.is("each shines on both", x.twins(0), 1);
        x.reach(1, 0);
        due.is("one does not", x.twins(0), -1);
        x.post();
        x.reach(1, 20000);
        due.is("a third that shines on neither", x.twins(0), 1);
        due.is("it is no twin", x.twins(1), -1);
    }

    // Promises 19 and 20

    private static void leastOfNoMarks() {
        due.sentence(19, "FEWEST: how many, where none is needed");
        due.is("one post", new WayMarks().least(), 0);
        WayMarks x = allTwins(16);
        x.may(3, true);
        due.is("all twins", x.least(), 0);
        due.is("set()", x.set(), 0);
        due.is("every()", x.every(), 1);
    }

    private static void leastOfAllMarks() {
        due.sentence(19, "FEWEST: how many, where all are needed");
        WayMarks x = Nets.empty(16);
        x.may(1, false);
        due.is("least()", x.least(), 16);
        due.is("set()", x.set(), ALL);
        due.is("every()", x.every(), 1);
        WayMarks line = Nets.line(8);
        line.may(3, true);
        due.is("need 7 of a line of 8", line.least(), 8);
        due.is("set()", line.set(), 255);
        due.is("every()", line.every(), 1);
    }

    private static void leastOfNoSet() {
        due.sentence(19, "-2 if no set TELLS ALL");
        WayMarks x = Nets.empty(2);
        x.may(1, false);
        due.is("need 2 of two", x.least(), 2);
        x.may(1, true);
        due.is("need 3 of two", x.least(), -2);
        due.is("set() stays", x.set(), 3);
        WayMarks line = Nets.line(7);
        line.may(3, true);
        due.is("need 7 of a line of 7", line.least(), -2);
        WayMarks one = new WayMarks();
        one.want(true);
        one.may(1, false);
        due.is("yes of two for one post", one.least(), -2);
        WayMarks apart = Nets.of(3, 0, 1);
        apart.rule(2, 0);
        due.is("beside", apart.least(), 2);
        apart.want(true);
        due.is("beside, none for 2", apart.least(), -2);
    }

    private static void leastIsTheFirst() {
        due.sentence(19, "of these the first: of as many POSTS, that whose number is less");
        WayMarks x = Nets.empty(16);
        due.is("least()", x.least(), 15);
        due.is("set()", x.set(), 32767);
        WayMarks star = Nets.star(3);
        due.is("star, least()", star.least(), 2);
        due.is("1 and 2, not 1 and 3", star.set(), 6);
        WayMarks back = Nets.of(4, 3, 0, 3, 1, 3, 2);
        due.is("its middle is the last", back.least(), 2);
        due.is("0 and 1", back.set(), 3);
        // Round the ring 0 - 3 - 2 - 1 - 4 by NEAR any three in a row tell all, and no other three do.
        WayMarks ring = Nets.of(5, 0, 3, 3, 2, 2, 1, 1, 4, 4, 0);
        ring.rule(1, 0);
        due.is("ring by near, least()", ring.least(), 3);
        due.is("ring by near, 0, 2 and 3", ring.set(), 13);
        due.is("ring by near, every()", ring.every(), 5);
    }

    private static void everyWithout() {
        due.sentence(20, "How many sets of as many as FEWEST TELL ALL; 0 without");
        WayMarks x = Nets.empty(2);
        due.is("either", x.every(), 2);
        x.may(1, true);
        due.is("need 3 of two", x.every(), 0);
        x.may(0, true);
        x.rule(2, 0);
        due.is("twins", x.every(), 1);
        x.want(true);
        due.is("no yes", x.every(), 0);
        due.is("one post", new WayMarks().every(), 1);
        due.is("each but one of 16", Nets.empty(16).every(), 16);
    }

    private static void everyOfManySets() {
        due.sentence(20, "How many sets, where there are most");
        // All are lit by all, so that all are twins: only yes counts, and any seven give it.
        WayMarks x = Nets.line(16);
        x.rule(3, 20000);
        x.want(true);
        x.may(3, true);
        due.is("least()", x.least(), 7);
        due.is("the first", x.set(), 127);
        due.is("every()", x.every(), 11440);
    }

    // Promises 21 and 22

    private static void cheapestAtItsEnds() {
        due.sentence(21, "CHEAPEST: its sum, from 0 to 16000");
        due.is("one post", new WayMarks().cheapest(), 0);
        due.is("all twins", allTwins(16).cheapest(), 0);
        WayMarks x = Nets.empty(16);
        for (int p = 0; p < 16; p++) {
            x.price(p, 1000);
        }
        due.is("all but one", x.cheapest(), 15000);
        due.is("set()", x.set(), 32767);
        x.want(true);
        due.is("all", x.cheapest(), 16000);
        due.is("set()", x.set(), ALL);
        x.want(false);
        x.price(15, 999);
        due.is("all but one, with the last", x.cheapest(), 14999);
        due.is("set()", x.set(), ALL - 16384);
    }

    private static void cheapestIsTheFirst() {
        due.sentence(21, "of the same sum, that whose number is less comes first");
        // The line 2 - 0 - 1 - 3: an end alone is enough, and so are the inner two.
        WayMarks x = Nets.of(4, 2, 0, 0, 1, 1, 3);
        x.price(2, 2);
        x.price(3, 2);
        due.is("cheapest()", x.cheapest(), 2);
        due.is("two of them before one", x.set(), 3);
        due.is("least() is the one", x.least(), 1);
        due.is("set()", x.set(), 4);
        x.price(0, 2);
        due.is("cheapest()", x.cheapest(), 2);
        due.is("one end before the other", x.set(), 4);
    }

    private static void cheapestOfNoSet() {
        due.sentence(21, "-2 if no set TELLS ALL");
        WayMarks x = Nets.empty(3);
        due.is("cheapest()", x.cheapest(), 2);
        x.may(1, true);
        due.is("need 3", x.cheapest(), -2);
        due.is("set() stays", x.set(), 3);
        WayMarks one = new WayMarks();
        one.rule(2, 0);
        one.want(true);
        due.is("no yes", one.cheapest(), -2);
    }

    private static void setAtFirst() {
        due.sentence(22, "0 at first");
        due.is("set()", new WayMarks().set(), 0);
        WayMarks x = Nets.empty(3);
        x.every();
        x.shown();
        x.clash(7);
        x.worst(7);
        due.is("set() when others were asked", x.set(), 0);
        x.may(3, true);
        x.least();
        x.cheapest();
        x.greedy();
        due.is("set() when there was none", x.set(), 0);
    }

    private static void setStays() {
        due.sentence(22, "it stays with all acts");
        WayMarks x = Nets.empty(3);
        x.least();
        x.feed(0x00020001, 0, 0, 0, 0);
        x.post();
        x.road(0, 1, 1);
        x.cut(0, 1);
        x.roads(4);
        x.reach(0, 1);
        x.price(0, 2);
        x.chance(0, 2);
        x.rule(1, 0);
        x.may(1, true);
        x.want(true);
        x.word(0, 1);
        x.clear();
        due.is("set()", x.set(), 3);
        due.is("undo of all", x.undo(x.about(7)), 14);
        due.is("set() of posts that are undone", x.set(), 3);
        due.is("it is no set of posts now", x.clash(x.set()), -2);
    }

    private static void setOfTheLatest() {
        due.sentence(22, "The set of the latest that was not below 0 (also if it was 0)");
        WayMarks x = Nets.empty(3);
        x.price(0, 9);
        x.least();
        due.is("of least()", x.set(), 3);
        x.cheapest();
        due.is("of cheapest()", x.set(), 6);
        x.greedy();
        due.is("of greedy()", x.set(), 3);
        x.rule(2, 0);
        x.greedy();
        due.is("of greedy() that was 0", x.set(), 0);
        x.undo(1);
        x.cheapest();
        x.rule(2, 0);
        x.least();
        due.is("of least() that was 0", x.set(), 0);
    }

    // Promises 23 to 25

    private static void shownOfNone() {
        due.sentence(23, "SHOWN: how many pairs, where there is none");
        due.is("one post", new WayMarks().shown(), 0);
        due.is("all twins", allTwins(16).shown(), 0);
        due.is("a pair that all part", Nets.line(16).shown(), 1);
    }

    private static void shownOfMost() {
        due.sentence(23, "one is taken if no POST PARTS it that PARTS one taken already");
        WayMarks x = Nets.empty(16);
        due.is("each its own", x.shown(), 8);
        due.is("of 15", Nets.empty(15).shown(), 7);
        x.may(3, true);
        due.is("whatever is needed", x.shown(), 8);
    }

    private static void shownSharesWithNoneBefore() {
        due.sentence(23, "no POST PARTS it that PARTS one taken already, be it the latest or an older one");
        // By BESIDE 6 parts 0 and 1, and 7 parts 1 and 2; then 6 again parts 1 and 4, which is not taken.
        WayMarks x = Nets.of(8, 0, 6, 4, 6, 2, 7);
        x.rule(2, 0);
        due.is("shown()", x.shown(), 4);
        int[] pairs = {1, 16 + 2, 16 + 6, 16 + 7, -1};
        for (int k = 0; k < pairs.length; k++) {
            due.is("pair(" + k + ")", x.pair(k), pairs[k]);
        }
    }

    private static void pairsInOrder() {
        due.sentence(24, "The k-th pair that is SHOWN");
        WayMarks x = Nets.empty(16);
        for (int k = 0; k < 8; k++) {
            due.is("pair(" + k + ")", x.pair(k), 16 * 2 * k + 2 * k + 1);
        }
        WayMarks star = Nets.of(4, 3, 0, 3, 1, 3, 2);
        star.rule(2, 0);
        due.is("twins are passed over, pair(0)", star.pair(0), 3);
        due.is("twins are passed over, pair(1)", star.pair(1), -1);
    }

    private static void pairOfNoneSuch() {
        due.sentence(24, "NONE if there is none such");
        WayMarks x = Nets.empty(16);
        for (int k : new int[] {8, 9, 120, 256, MAX, -1, -8, MIN}) {
            due.is("pair(" + k + ")", x.pair(k), -1);
        }
        due.is("one post", new WayMarks().pair(0), -1);
        due.is("one post, pair(-1)", new WayMarks().pair(-1), -1);
        due.is("all twins", allTwins(16).pair(0), -1);
    }

    private static void greedyOfNone() {
        due.sentence(25, "until no pair lacks (TWINS do not), where none does at first");
        due.is("one post", new WayMarks().greedy(), 0);
        WayMarks x = allTwins(16);
        x.may(3, true);
        due.is("all twins", x.greedy(), 0);
        due.is("set()", x.set(), 0);
    }

    private static void greedyTakesTheLeastPost() {
        due.sentence(25, "the MARK that PARTS most pairs of those that lack, the least POST of as many");
        WayMarks x = Nets.empty(16);
        due.is("all part as many", x.greedy(), 15);
        due.is("set()", x.set(), 32767);
        WayMarks line = Nets.of(5, 4, 0, 0, 1, 1, 2, 2, 3);
        due.is("the ends part most", line.greedy(), 1);
        due.is("3 before 4", line.set(), 8);
    }

    private static void greedyOfAll() {
        due.sentence(25, "until no pair lacks, with all put");
        WayMarks x = Nets.empty(16);
        x.may(1, false);
        due.is("need 2", x.greedy(), 16);
        due.is("set()", x.set(), ALL);
    }

    private static void greedyThatLacks() {
        due.sentence(25, "-2 less the number of pairs that lack in the end, if some do (-3, -4, ..)");
        WayMarks two = Nets.empty(2);
        two.greedy();
        two.may(2, false);
        due.is("one pair", two.greedy(), -3);
        due.is("set() stays", two.set(), 1);
        WayMarks x = Nets.empty(16);
        x.may(2, false);
        due.is("all 120 pairs", x.greedy(), -122);
        due.is("set()", x.set(), 0);
        // In a line of 7 only the pairs with one just in the middle lack: 5 + 3 + 1 of them.
        WayMarks line = Nets.line(7);
        line.may(3, true);
        due.is("need 7 of a line of 7", line.greedy(), -11);
    }

    private static void greedyWithoutYes() {
        due.sentence(25, "YES does not count");
        WayMarks x = new WayMarks();
        x.want(true);
        due.is("one post", x.greedy(), 0);
        WayMarks two = allTwins(2);
        two.want(true);
        due.is("no yes at all", two.greedy(), 0);
        due.is("least()", two.least(), -2);
    }

    // Promises 26 to 30

    private static void wordOfAnyNumber() {
        due.sentence(26, "A WORD more (v any number): how many there are");
        WayMarks x = Nets.empty(4);
        due.is("word(0, MIN)", x.word(0, MIN), 1);
        due.is("word(1, MAX)", x.word(1, MAX), 2);
        due.is("word(2, -1)", x.word(2, -1), 3);
        due.is("word(3, 1000000)", x.word(3, 1000000), 4);
        due.is("against(0)", x.against(0), 7);
        due.is("against(3)", x.against(3), 15);
        WayMarks all = Nets.empty(16);
        for (int p = 15; p >= 0; p--) {
            due.is("word(" + p + ", 0)", all.word(p, 0), 16 - p);
        }
        due.is("about(6)", all.about(6), 16);
    }

    private static void wordOfNoPost() {
        due.sentence(26, "NONE, doing nothing: there is none such POST");
        for (int p : NO_POSTS_OF_THREE) {
            due.refuses(Nets::busy, "word(" + p + ", 1)", x -> x.word(p, 1), -1);
        }
    }

    private static void wordWhereThereIsOne() {
        due.sentence(26, "NONE, doing nothing: it has one");
        for (int v : new int[] {4, 0, 1, 5, MIN, MAX}) {
            due.refuses(Nets::busy, "word(1, " + v + ")", x -> x.word(1, v), -1);
        }
        WayMarks x = Nets.empty(16);
        x.word(15, 1);
        due.is("word(15, 1) again", x.word(15, 1), -1);
        x.undo(1);
        due.is("word(15, 2) when it is undone", x.word(15, 2), 1);
        x.clear();
        due.is("word(15, 3) when all are cleared", x.word(15, 3), 1);
    }

    private static void wordThatIsBack() {
        due.sentence(26, "A WORD that another took the place of is back when that is undone");
        WayMarks x = Nets.line(3);
        x.word(0, 2);
        x.clear();
        x.word(0, 1);
        due.is("where(0)", x.where(0), 1);
        due.is("undo(2)", x.undo(2), 2);
        due.is("where(0) as before", x.where(0), 2);
        due.is("against(1)", x.against(1), 1);
    }

    private static void clearOfNone() {
        due.sentence(27, "There are no WORDS any more: how many there were (0 .. 16)");
        WayMarks x = Nets.empty(16);
        due.is("of none", x.clear(), 0);
        for (int p = 0; p < 16; p++) {
            x.word(p, 0);
        }
        due.is("of all", x.clear(), 16);
        due.is("about(6)", x.about(6), 0);
        due.is("against(15)", x.against(15), 0);
        due.is("again", x.clear(), 0);
        due.is("undo(2)", x.undo(2), 2);
        due.is("about(6)", x.about(6), 16);
    }

    private static void fitsOfNoWords() {
        due.sentence(28, "How many POSTS FIT the WORDS, where there are none");
        due.is("one post", new WayMarks().fits(), 1);
        due.is("sixteen", Nets.empty(16).fits(), 16);
    }

    private static void fitsAsManyAsMayLie() {
        due.sentence(28, "FITS if at most so many of them are not what its MARK ANSWERS as may LIE");
        WayMarks x = Nets.line(2);
        x.post();
        x.post();
        for (int p = 0; p < 4; p++) {
            x.word(p, -5);
        }
        for (int f = 0; f <= 3; f++) {
            x.may(f, true);
            due.is("four lie, f " + f, x.fits(), 0);
        }
        x.undo(5);
        for (int f = 0; f <= 3; f++) {
            x.may(f, true);
            due.is("three lie, f " + f, x.fits(), f == 3 ? 4 : 0);
        }
        x.undo(5);
        for (int f = 0; f <= 3; f++) {
            x.may(f, true);
            due.is("two lie, f " + f, x.fits(), f >= 2 ? 4 : 0);
        }
    }

    private static void fitsWhenNoneMayLie() {
        due.sentence(28, "(0 unless they may LIE)");
        WayMarks x = Nets.empty(2);
        x.word(0, 7);
        for (int f = 0; f <= 3; f++) {
            x.may(f, false);
            due.is("out, f " + f, x.fits(), 0);
        }
        x.may(0, true);
        due.is("lie, f 0", x.fits(), 0);
        x.may(1, true);
        due.is("lie, f 1", x.fits(), 2);
    }

    private static void whereAtItsEnds() {
        due.sentence(29, "The k-th POST that FITS");
        WayMarks x = Nets.empty(16);
        due.is("where(0)", x.where(0), 0);
        due.is("where(15)", x.where(15), 15);
        x.word(0, 1000000);
        due.is("where(0) of all but 0", x.where(0), 1);
        due.is("where(14) of all but 0", x.where(14), 15);
        due.is("where(15) of all but 0", x.where(15), -1);
        due.is("fits()", x.fits(), 15);
    }

    private static void whereOfNoneSuch() {
        due.sentence(29, "NONE if there is none such");
        WayMarks x = Nets.empty(16);
        for (int k : new int[] {16, 17, 32, 256, MAX, -1, -16, MIN}) {
            due.is("where(" + k + ")", x.where(k), -1);
        }
        x.word(15, 5);
        due.is("none fits", x.where(0), -1);
        due.is("none fits, where(-1)", x.where(-1), -1);
    }

    private static void againstAtItsEnds() {
        due.sentence(30, "The MARKS whose WORDS are not what they ANSWER for a POST, as bits");
        WayMarks x = Nets.empty(16);
        due.is("no words", x.against(15), 0);
        for (int p = 0; p < 16; p++) {
            x.word(p, 0);
        }
        due.is("all but itself", x.against(15), 32767);
        due.is("all but itself", x.against(0), 65534);
        x.rule(3, 0);
        due.is("within: all but the others", x.against(15), 32768);
        x.rule(2, 0);
        due.is("beside: none", x.against(15), 0);
        x.clear();
        for (int p = 0; p < 16; p++) {
            x.word(p, MIN);
        }
        due.is("all", x.against(15), ALL);
    }

    private static void againstOfNoPost() {
        due.sentence(30, "NONE if there is none such POST");
        WayMarks x = Nets.busy();
        for (int p : NO_POSTS_OF_THREE) {
            due.is("against(" + p + ")", x.against(p), -1);
        }
    }

    // Promises 31 to 33

    private static void askingWhenDone() {
        WayMarks x = Nets.empty(16);
        WayMarks same = allTwins(16);
        same.chance(0, 100);
        String said = "X is DONE if any two of it are TWINS, or it has one POST, or none";
        int[] done = {0, 1, 2, 32768};
        for (int set : done) {
            due.sentence(31, said);
            due.is("worst(" + set + ")", x.worst(set), 0);
            due.sentence(32, said);
            due.is("next(" + set + ")", x.next(set), -1);
            due.sentence(33, said);
            due.is("mean(" + set + ")", x.mean(set), 0);
        }
        int[] twins = {3, 4095, 65520, 32769};
        for (int set : twins) {
            due.sentence(31, said);
            due.is("worst(" + set + ") of twins", same.worst(set), 0);
            due.sentence(32, said);
            due.is("next(" + set + ") of twins", same.next(set), -1);
            due.sentence(33, said);
            due.is("mean(" + set + ") of twins", same.mean(set), 0);
        }
    }

    private static void askingOfSomeTwins() {
        // By BESIDE the leaves of a star are twins, and its middle is none.
        WayMarks x = Nets.star(11);
        x.rule(2, 0);
        String said = "X is DONE if any two of it are TWINS: not if some two are none";
        due.sentence(31, said);
        due.is("worst(4095)", x.worst(4095), 1);
        due.is("worst(4094)", x.worst(4094), 0);
        due.is("worst(3)", x.worst(3), 1);
        due.sentence(32, said);
        due.is("next(4095)", x.next(4095), 0);
        due.is("next(4094)", x.next(4094), -1);
        due.sentence(33, said);
        due.is("mean(4095)", x.mean(4095), 12);
        due.is("mean(4094)", x.mean(4094), 0);
    }

    private static void askingOfTwelve() {
        WayMarks x = Nets.empty(16);
        String said = "a set X of just 12";
        due.sentence(31, said);
        due.is("worst(4095)", x.worst(4095), 11);
        due.is("worst of the last twelve", x.worst(65520), 11);
        due.sentence(32, said);
        due.is("next(4095)", x.next(4095), 0);
        due.is("next of the last twelve", x.next(65520), 4);
        due.sentence(33, said);
        due.is("mean(4095)", x.mean(4095), 77);
        due.is("mean of the last twelve", x.mean(65520), 77);
        WayMarks line = Nets.line(12);
        due.is("mean of a line", line.mean(4095), 12);
        due.sentence(31, said);
        due.is("worst of a line", line.worst(4095), 1);
    }

    private static void askingOfMoreThanTwelve() {
        String said = "NONE: it has more than 12";
        WayMarks x = Nets.empty(16);
        WayMarks same = allTwins(16);
        for (int set : new int[] {8191, 65528, 65535, 57343}) {
            due.sentence(31, said);
            due.is("worst(" + set + ")", x.worst(set), -1);
            due.is("worst(" + set + ") of twins", same.worst(set), -1);
            due.sentence(32, said);
            due.is("next(" + set + ")", x.next(set), -1);
            due.sentence(33, said);
            due.is("mean(" + set + ")", x.mean(set), -1);
            due.is("mean(" + set + ") of twins", same.mean(set), -1);
        }
    }

    private static void askingOfOthersThanPosts() {
        String said = "NONE: it has others than POSTS";
        WayMarks x = Nets.line(3);
        for (int set : NO_SETS_OF_THREE) {
            due.sentence(31, said);
            due.is("worst(" + set + ")", x.worst(set), -1);
            due.sentence(32, said);
            due.is("next(" + set + ")", x.next(set), -1);
            due.sentence(33, said);
            due.is("mean(" + set + ")", x.mean(set), -1);
        }
        WayMarks full = Nets.empty(16);
        due.is("mean(65536)", full.mean(65536), -1);
        due.sentence(31, said);
        due.is("worst(65536)", full.worst(65536), -1);
        due.is("worst(-65536)", full.worst(-65536), -1);
        due.sentence(32, said);
        due.is("next(65537)", full.next(65537), -1);
    }

    private static void nextIsTheLeast() {
        due.sentence(32, "the least POST whose MARK is the first of a best way: for WORST");
        WayMarks x = Nets.empty(16);
        due.is("of those in X alone", x.next(32768 + 16384), 14);
        WayMarks line = Nets.line(16);
        due.is("0 is best for all", line.next(4095 << 4), 0);
        due.is("of two beside it 0 parts them", line.next(5), 0);
        line.rule(2, 0);
        due.is("1 lies beside both, so 3", line.next(5), 3);
        // The star's middle, 3, has a way of 1 to all, so it parts no two leaves.
        WayMarks star = Nets.of(4, 3, 0, 3, 1, 3, 2);
        due.is("0 parts 1 and 3", star.next(10), 0);
        due.is("0 does not part 1 and 2", star.next(6), 1);
        // By the mean it is better to ask for 2 first; the worst is as good from 0 on.
        WayMarks unlike = Nets.empty(3);
        unlike.chance(2, 100);
        due.is("chances do not count", unlike.next(7), 0);
    }

    private static void askingOfAMarkOutsideX() {
        String said = "A MARK at a POST (of the net, also outside X) is asked";
        // Only the mark at 2 shines on one of the first two.
        WayMarks x = Nets.of(3, 0, 1, 1, 2);
        x.rule(4, 0);
        x.reach(0, 1);
        x.reach(1, 1);
        x.reach(2, 1);
        due.sentence(31, said);
        due.is("worst(3)", x.worst(3), 1);
        due.sentence(32, said);
        due.is("next(3)", x.next(3), 2);
        due.sentence(33, said);
        due.is("mean(3)", x.mean(3), 2);
    }

    private static void meanOfChancesAtTheirEnds() {
        due.sentence(33, "the least sum, over all POSTS of X, of CHANCE times how many were asked");
        WayMarks x = Nets.empty(12);
        for (int p = 0; p < 12; p++) {
            x.chance(p, 100);
        }
        due.is("all of 100", x.mean(4095), 7700);
        for (int p = 0; p < 12; p++) {
            x.chance(p, 0);
        }
        due.is("all of 0", x.mean(4095), 0);
        x.chance(11, 1);
        due.is("one of 1 is asked first", x.mean(4095), 1);
        due.is("it is not in X", x.mean(2047), 0);
        x.chance(10, 100);
        due.is("one of 100 before it", x.mean(4095), 102);
        due.is("though twelve be asked", x.worst(4095), 11);
    }

    private static void meanWithoutNeed() {
        String said = "NEED and YES do not count for ASKING";
        WayMarks x = Nets.empty(3);
        x.may(3, true);
        x.want(true);
        due.sentence(31, said);
        due.is("worst(7)", x.worst(7), 2);
        due.sentence(32, said);
        due.is("next(7)", x.next(7), 0);
        due.sentence(33, said);
        due.is("mean(7)", x.mean(7), 5);
    }

    private static void askingAfterOtherAnswers() {
        String said = "of X those stay for which it ANSWERS so, as the net is now";
        WayMarks x = Nets.empty(4);
        x.road(0, 1, 1);
        x.road(0, 2, 2);
        x.road(0, 3, 2);
        x.road(2, 3, 1);
        due.sentence(31, said);
        due.is("worst(15)", x.worst(15), 1);
        due.sentence(34, said);
        due.is("seek(15)", x.seek(15), 1);
        // Now it is the line 1 - 0 - 2 - 3, where by NEAR the mark at 0 alone parts 2 and 3.
        x.cut(0, 3);
        x.rule(1, 0);
        due.is("seek(12) after cut and rule", x.seek(12), 1);
        due.sentence(31, said);
        due.is("worst(15) after cut and rule", x.worst(15), 2);
        due.sentence(32, said);
        due.is("next(15) after cut and rule", x.next(15), 1);
        due.sentence(33, said);
        due.is("mean(15) after cut and rule", x.mean(15), 8);
        x.undo(2);
        due.is("mean(15) after undo", x.mean(15), 4);
    }

    // Promise 34

    private static void seekOfOneOrNone() {
        due.sentence(34, "(0 if X is one POST or none)");
        WayMarks x = Nets.line(10);
        x.rule(1, 0);
        due.is("seek(0)", x.seek(0), 0);
        for (int p = 0; p < 10; p++) {
            due.is("seek of one", x.seek(1 << p), 0);
        }
        due.is("a new one, none", new WayMarks().seek(0), 0);
        due.is("a new one, all", new WayMarks().seek(1), 0);
    }

    private static void seekInTen() {
        due.sentence(34, "SEEKING in a net of 10 POSTS at most");
        WayMarks x = Nets.empty(10);
        due.is("ten that can't move", x.seek(1023), 9);
        due.is("the last two", x.seek(512 + 256), 1);
        WayMarks line = Nets.line(10);
        due.is("a line", line.seek(1023), 1);
        WayMarks full = Nets.of(3, 0, 1, 1, 2, 2, 0);
        due.is("three, each beside each", full.seek(7), -2);
        due.is("two of them", full.seek(6), 1);
    }

    private static void seekInMoreThanTen() {
        due.sentence(34, "NONE: the net has more than 10");
        WayMarks x = Nets.empty(11);
        for (int set : new int[] {0, 1, 3, 1023, 1024, 2047, 2048, -1}) {
            due.is("seek(" + set + ") of 11", x.seek(set), -1);
        }
        due.is("seek(0) of 16", Nets.empty(16).seek(0), -1);
        due.is("seek(65535) of 16", Nets.empty(16).seek(ALL), -1);
        x.undo(1);
        due.is("seek(1023) of 10 again", x.seek(1023), 9);
        due.is("seek(1024) of 10 again", x.seek(1024), -1);
    }

    private static void seekOfOthersThanPosts() {
        due.sentence(34, "NONE: X has others than POSTS");
        WayMarks x = Nets.line(3);
        for (int set : NO_SETS_OF_THREE) {
            due.is("seek(" + set + ")", x.seek(set), -1);
        }
        due.is("seek(2) of one", new WayMarks().seek(2), -1);
    }

    private static void seekThatEscapes() {
        due.sentence(34, "-2 if it can escape for ever");
        WayMarks x = Nets.line(3);
        x.rule(4, 0);
        due.is("a line of 3, lit", x.seek(7), -2);
        due.is("two of it are found at once", x.seek(5), 1);
        WayMarks full = Nets.of(4, 0, 1, 0, 2, 0, 3, 1, 2, 1, 3, 2, 3);
        due.is("each beside each", full.seek(15), -2);
    }

    private static void seekOfTwins() {
        due.sentence(34, "TWINS do not count here: one POST or none");
        WayMarks x = allTwins(3);
        due.is("twins that can't move", x.seek(3), -2);
        due.is("one of them", x.seek(4), 0);
        due.sentence(31, "TWINS do count there");
        due.is("worst(3)", x.worst(3), 0);
    }

    private static void seekThatMoves() {
        due.sentence(34, "X is then what stays and all that is BESIDE it");
        // A mark at a leaf leaves the other two; from there it may be at all but that leaf.
        WayMarks star = Nets.star(3);
        due.is("three leaves", star.seek(14), 2);
        due.is("all", star.seek(15), 2);
        WayMarks apart = Nets.empty(4);
        due.is("three that can't move", apart.seek(14), 2);
        due.is("four that can't move", apart.seek(15), 3);
    }

    // Promise 35

    private static void treeOfOnePost() {
        due.sentence(35, "of one POST 0");
        WayMarks x = new WayMarks();
        due.is("tree()", x.tree(), 0);
        x.post();
        due.is("two apart", x.tree(), -1);
        x.undo(1);
        due.is("one again", x.tree(), 0);
    }

    private static void treeOfALine() {
        due.sentence(35, "of a line (two LEAVES, no KNOT) 1");
        for (int posts = 2; posts <= 16; posts++) {
            due.is("line of " + posts, Nets.line(posts).tree(), 1);
        }
        due.is("not in order", Nets.of(5, 3, 1, 1, 4, 4, 0, 0, 2).tree(), 1);
    }

    private static void treeOfAStar() {
        due.sentence(35, "KNOTS those with three or more that some LEAF leads to at once");
        for (int leaves = 3; leaves <= 15; leaves++) {
            due.is("star of " + leaves, Nets.star(leaves).tree(), leaves - 1);
        }
    }

    private static void treeOfLegs() {
        due.sentence(35, "some LEAF leads to by POSTS with two ROADS alone");
        due.is("legs of five", Nets.of(16, 0, 1, 1, 2, 2, 3, 3, 4, 4, 5, 0, 6, 6, 7, 7, 8, 8, 9, 9, 10,
            0, 11, 11, 12, 12, 13, 13, 14, 14, 15).tree(), 2);
        WayMarks two = Nets.of(16, 0, 1, 1, 2, 2, 3, 3, 4, 4, 5, 0, 6, 0, 7, 7, 8, 8, 9, 5, 10, 5, 11, 11, 12,
            12, 13, 13, 14, 14, 15);
        due.is("two knots far apart", two.tree(), 2);
        due.is("least()", two.least(), 2);
        due.is("legs whose leaves are less than the knot", Nets.of(7, 0, 3, 3, 6, 1, 4, 4, 6, 2, 5, 5, 6).tree(), 2);
        due.is("one leg beside two leaves", Nets.of(6, 0, 1, 1, 2, 2, 3, 3, 4, 3, 5).tree(), 2);
        due.is("a star whose leaves are less", Nets.of(5, 4, 0, 4, 1, 4, 2, 4, 3).tree(), 3);
    }

    private static void treeOfTheLongestLeg() {
        due.sentence(35, "some LEAF leads to by POSTS with two ROADS alone, by as many as there can be");
        WayMarks x = Nets.line(15);
        x.post();
        x.road(13, 15, 1);
        due.is("a leg of 13, 0 its leaf", x.tree(), 2);
        WayMarks y = Nets.line(15);
        y.post();
        y.road(1, 15, 1);
        due.is("a leg of 13, 14 its leaf", y.tree(), 2);
    }

    private static void treeWithAnInnerOne() {
        due.sentence(35, "one with three ROADS that no LEAF leads to is no KNOT");
        WayMarks x = Nets.of(13, 0, 1, 1, 2, 0, 3, 3, 4, 0, 5, 5, 6, 2, 7, 2, 8, 4, 9, 4, 10, 6, 11, 6, 12);
        due.is("three knots, six leaves", x.tree(), 3);
        due.is("least()", x.least(), 3);
    }

    private static void treeOfAnyLengths() {
        due.sentence(35, "this is FEWEST if all ROADS are of one length (else it may need fewer)");
        WayMarks x = Nets.empty(4);
        x.road(0, 1, 1);
        x.road(0, 2, 2);
        x.road(0, 3, 1000);
        due.is("tree()", x.tree(), 2);
        due.is("least()", x.least(), 1);
    }

    private static void treeThatIsNone() {
        due.sentence(35, "NONE if the net is none");
        due.is("two pieces", Nets.empty(2).tree(), -1);
        due.is("sixteen pieces", Nets.empty(16).tree(), -1);
        due.is("a ring of 3", Nets.ring(3).tree(), -1);
        due.is("a ring of 16", Nets.ring(16).tree(), -1);
        due.is("n - 1 roads, with a round", Nets.of(4, 0, 1, 1, 2, 2, 0).tree(), -1);
        due.is("n - 1 roads, and 0 apart", Nets.of(4, 1, 2, 2, 3, 3, 1).tree(), -1);
        due.is("n - 2 roads", Nets.of(4, 0, 1, 2, 3).tree(), -1);
        due.is("n roads in one piece", Nets.of(4, 0, 1, 1, 2, 2, 0, 2, 3).tree(), -1);
        due.is("120 roads", Nets.full().tree(), -1);
        WayMarks x = Nets.ring(3);
        x.cut(0, 1);
        due.is("a ring that was cut", x.tree(), 1);
    }

    private static void told() {
        partsOfNoMarksAndOfAll();
        partsOfNoPost();
        partsOfOnePost();
        partsOfOthersThanPosts();
        clashWithJustAsManyAsNeeded();
        clashOfTheEmptySet();
        clashOfTwins();
        clashOfYes();
        yesAsManyAsNeeded();
        yesOfEachKind();
        clashOfOthersThanPosts();
        twinsInOrder();
        twinsOfNoneSuch();
        twinsAnyMarkParts();
    }

    private static void chosen() {
        leastOfNoMarks();
        leastOfAllMarks();
        leastOfNoSet();
        leastIsTheFirst();
        everyWithout();
        everyOfManySets();
        cheapestAtItsEnds();
        cheapestIsTheFirst();
        cheapestOfNoSet();
        setAtFirst();
        setStays();
        setOfTheLatest();
        shownOfNone();
        shownOfMost();
        shownSharesWithNoneBefore();
        pairsInOrder();
        pairOfNoneSuch();
        greedyOfNone();
        greedyTakesTheLeastPost();
        greedyOfAll();
        greedyThatLacks();
        greedyWithoutYes();
    }

    private static void worded() {
        wordOfAnyNumber();
        wordOfNoPost();
        wordWhereThereIsOne();
        wordThatIsBack();
        clearOfNone();
        fitsOfNoWords();
        fitsAsManyAsMayLie();
        fitsWhenNoneMayLie();
        whereAtItsEnds();
        whereOfNoneSuch();
        againstAtItsEnds();
        againstOfNoPost();
    }

    private static void askedAndSought() {
        askingWhenDone();
        askingOfSomeTwins();
        askingOfTwelve();
        askingOfMoreThanTwelve();
        askingOfOthersThanPosts();
        nextIsTheLeast();
        askingOfAMarkOutsideX();
        meanOfChancesAtTheirEnds();
        meanWithoutNeed();
        askingAfterOtherAnswers();
        seekOfOneOrNone();
        seekInTen();
        seekInMoreThanTen();
        seekOfOthersThanPosts();
        seekThatEscapes();
        seekOfTwins();
        seekThatMoves();
    }

    private static void trees() {
        treeOfOnePost();
        treeOfALine();
        treeOfAStar();
        treeOfLegs();
        treeOfTheLongestLeg();
        treeWithAnInnerOne();
        treeOfAnyLengths();
        treeThatIsNone();
    }

    public static void main(String[] args) {
        told();
        chosen();
        worded();
        askedAndSought();
        trees();
        due.end();
    }
}

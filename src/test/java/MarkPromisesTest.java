/** Promises 16 to 35: what marks tell, asked at once or one after another. */
public final class MarkPromisesTest {
    private static final Due due = new Due();

    private static void parts() {
        due.promise(16);
        WayMarks x = Nets.line(4);
        due.is("parts(15, 0, 2)", x.parts(15, 0, 2), 3);
        due.is("parts(15, 2, 0)", x.parts(15, 2, 0), 3);
        due.is("parts(2, 0, 2)", x.parts(2, 0, 2), 0);
        due.is("parts(0, 0, 2)", x.parts(0, 0, 2), 0);
        due.is("parts(15, 2, 2)", x.parts(15, 2, 2), -1);
        due.is("parts(16, 0, 2)", x.parts(16, 0, 2), -1);
        due.is("parts(-1, 0, 2)", x.parts(-1, 0, 2), -1);
        due.is("parts(15, 0, 4)", x.parts(15, 0, 4), -1);
        due.is("parts(15, -1, 0)", x.parts(15, -1, 0), -1);
    }

    private static void clash() {
        due.promise(17);
        WayMarks x = Nets.ring(4);
        due.is("clash(0)", x.clash(0), 1);
        due.is("clash(5)", x.clash(5), 16 + 3);
        due.is("clash(10)", x.clash(10), 2);
        due.is("clash(3)", x.clash(3), -1);
        due.is("clash(16)", x.clash(16), -2);
        due.is("clash(-1)", x.clash(-1), -2);
        x.may(1, false);
        due.is("need 2, clash(3): 1 is as far from 0 as from 2", x.clash(3), 2);
        due.is("need 2, clash(15)", x.clash(15), -1);

        WayMarks y = Nets.empty(3);
        y.road(0, 1, 1);
        y.want(true);
        due.is("yes: no way is none", y.clash(1), 1002);
        due.is("yes: itself is one", y.clash(5), -1);
        y.may(1, false);
        due.is("yes: two of them", y.clash(7), 1002);
        y.rule(2, 0);
        y.may(0, false);
        due.is("beside: a pair comes before a yes", y.clash(0), 1);
        due.is("beside: no mark lies beside 2", y.clash(7), 1002);
        WayMarks none = Nets.empty(2);
        none.rule(2, 0);
        none.want(true);
        due.is("beside: no yes for 0", none.clash(3), 1000);
    }

    private static void twins() {
        due.promise(18);
        WayMarks x = Nets.empty(3);
        x.rule(2, 0);
        int[] want = {1, 2, 18, -1};
        for (int k = 0; k < want.length; k++) {
            due.is("twins(" + k + ")", x.twins(k), want[k]);
        }
        due.is("twins(-1)", x.twins(-1), -1);
        due.is("twins(2147483647)", x.twins(Integer.MAX_VALUE), -1);
        x.rule(0, 0);
        due.is("by ways there are none", x.twins(0), -1);
        WayMarks y = Nets.of(3, 0, 1, 1, 2, 2, 0);
        y.rule(1, 0);
        due.is("near, in a ring of 3", y.twins(2), 18);
    }

    private static void fewest() {
        due.promise(19);
        WayMarks ring = Nets.ring(4);
        due.is("ring least()", ring.least(), 2);
        due.is("ring set()", ring.set(), 3);
        WayMarks full = Nets.of(4, 0, 1, 0, 2, 0, 3, 1, 2, 1, 3, 2, 3);
        due.is("full least()", full.least(), 3);
        due.is("full set()", full.set(), 7);
        WayMarks line = Nets.line(5);
        due.is("line least()", line.least(), 1);
        due.is("line set()", line.set(), 1);
        due.promise(20);
        due.is("ring every()", ring.every(), 4);
        ring.price(0, 9);
        due.is("whatever the prices", ring.every(), 4);
        due.is("full every()", full.every(), 4);
        due.is("line every()", line.every(), 2);
        line.may(3, true);
        due.is("without every()", line.every(), 0);
        due.promise(19);
        due.is("without least()", line.least(), -2);
        due.is("one post", new WayMarks().least(), 0);
        due.promise(20);
        due.is("one post, every()", new WayMarks().every(), 1);

        WayMarks two = Nets.empty(2);
        due.is("two apart, every()", two.every(), 2);
        two.want(true);
        due.promise(19);
        due.is("two apart, yes wanted", two.least(), 2);
        two.rule(2, 0);
        due.is("beside: no yes", two.least(), -2);
        due.is("its set stays", two.set(), 3);
        two.want(false);
        due.is("beside: all are twins", two.least(), 0);
        due.is("its set is empty", two.set(), 0);
        due.promise(20);
        due.is("the empty one alone", two.every(), 1);
        WayMarks lit = Nets.empty(16);
        lit.rule(4, 0);
        due.is("lit: all but one, whichever", lit.every(), 16);
        due.promise(19);
        due.is("lit: all but one", lit.least(), 15);
        due.is("the first of these", lit.set(), 32767);
        lit.want(true);
        due.is("lit, yes wanted", lit.least(), 16);
        due.is("all", lit.set(), 65535);
    }

    private static void cheapest() {
        due.promise(21);
        WayMarks x = Nets.ring(4);
        due.is("all of price 1", x.cheapest(), 2);
        due.is("the first", x.set(), 3);
        x.price(0, 5);
        x.price(1, 5);
        due.is("the other two", x.cheapest(), 2);
        due.is("2 and 3", x.set(), 12);
        x.price(2, 5);
        due.is("1 and 3 don't tell all", x.cheapest(), 6);
        due.is("0 and 3 before 2 and 3", x.set(), 9);
        WayMarks line = Nets.line(4);
        line.price(0, 1000);
        line.price(3, 1000);
        due.is("two inner ones for one at the end", line.cheapest(), 2);
        due.is("1 and 2", line.set(), 6);
        line.price(1, 999);
        due.is("of the same sum that of the least number", line.cheapest(), 1000);
        due.is("0 alone before 1 and 2", line.set(), 1);
        line.may(3, true);
        due.is("none", line.cheapest(), -2);
        due.is("the set stays", line.set(), 1);
    }

    private static void latestSet() {
        due.promise(22);
        WayMarks x = Nets.ring(4);
        due.is("at first", x.set(), 0);
        x.every();
        due.is("every() leaves none", x.set(), 0);
        x.least();
        x.price(0, 9);
        x.cut(0, 1);
        x.undo(5);
        due.is("it stays with acts", x.set(), 3);
        x.may(3, true);
        x.least();
        x.cheapest();
        x.greedy();
        due.is("it stays if there is none", x.set(), 3);
        WayMarks y = Nets.empty(4);
        y.price(0, 3);
        y.least();
        due.is("of least()", y.set(), 7);
        y.cheapest();
        due.is("of cheapest()", y.set(), 14);
        y.greedy();
        due.is("of greedy()", y.set(), 7);
    }

    private static void shown() {
        due.promise(23);
        WayMarks x = Nets.empty(4);
        due.is("shown()", x.shown(), 2);
        due.promise(24);
        due.is("pair(0)", x.pair(0), 1);
        due.is("pair(1)", x.pair(1), 35);
        due.is("pair(2)", x.pair(2), -1);
        due.is("pair(-1)", x.pair(-1), -1);
        due.is("pair(-2147483648)", x.pair(Integer.MIN_VALUE), -1);
        x.rule(2, 0);
        due.is("twins are none", x.pair(0), -1);
        due.promise(23);
        due.is("twins are none", x.shown(), 0);
        due.is("one post", new WayMarks().shown(), 0);
        due.is("ring of 4: 0 and 1 are parted by all", Nets.ring(4).shown(), 1);
    }

    private static void greedy() {
        due.promise(25);
        WayMarks x = Nets.empty(4);
        due.is("greedy()", x.greedy(), 3);
        due.is("set()", x.set(), 7);
        x.may(1, false);
        due.is("need 2", x.greedy(), 4);
        due.is("set()", x.set(), 15);
        x.may(1, true);
        due.is("need 3: all six lack", x.greedy(), -8);
        due.is("set() stays", x.set(), 15);
        x.rule(2, 0);
        due.is("twins do not lack", x.greedy(), 0);
        due.is("set()", x.set(), 0);
        WayMarks y = Nets.empty(2);
        y.want(true);
        due.is("yes does not count", y.greedy(), 1);
        WayMarks line = Nets.line(5);
        due.is("an end parts most", line.greedy(), 1);
        due.is("set()", line.set(), 1);
        // By near the middle of a star parts none, each leaf three pairs of the six.
        WayMarks star = Nets.star(3);
        star.rule(1, 0);
        due.is("star by near", star.greedy(), 2);
        due.is("set()", star.set(), 6);
    }

    private static void words() {
        due.promise(26);
        WayMarks x = Nets.line(3);
        due.is("word(0, 1)", x.word(0, 1), 1);
        due.is("word(0, 2)", x.word(0, 2), -1);
        due.is("word(3, 0)", x.word(3, 0), -1);
        due.is("word(-1, 0)", x.word(-1, 0), -1);
        due.is("acts", x.about(7), 5);
        due.is("word(2, -2147483648)", x.word(2, Integer.MIN_VALUE), 2);
        due.promise(30);
        due.is("against(0)", x.against(0), 5);
        due.is("against(1)", x.against(1), 4);
        due.is("against(3)", x.against(3), -1);
        due.is("against(-1)", x.against(-1), -1);
        due.promise(28);
        due.is("fits()", x.fits(), 0);
        x.may(1, false);
        due.is("out is no lie", x.fits(), 0);
        x.may(1, true);
        due.is("one may lie", x.fits(), 1);
        due.promise(29);
        due.is("without words", Nets.line(3).where(2), 2);
        due.is("as many as posts", Nets.line(3).where(3), -1);
        due.is("where(0)", x.where(0), 1);
        due.is("where(1)", x.where(1), -1);
        due.is("where(-1)", x.where(-1), -1);
        x.may(2, true);
        due.is("two may lie, where(2)", x.where(2), 2);
        due.promise(28);
        due.is("two may lie", x.fits(), 3);
        due.promise(27);
        due.is("clear()", x.clear(), 2);
        due.is("words", x.about(6), 0);
        due.is("clear() of none", x.clear(), 0);
        due.is("each is an act", x.about(7), 11);
        due.is("undo(2)", x.undo(2), 2);
        due.is("words are back", x.about(6), 2);
        due.is("as they were", x.against(1), 4);
        x.clear();
        due.promise(26);
        due.is("word(0, 0) after clear", x.word(0, 0), 1);
        x.may(0, true);
        due.promise(29);
        due.is("where(0)", x.where(0), 0);
        x.rule(1, 0);
        due.is("words go by the kind of now", x.where(0), 2);
    }

    private static void asking() {
        WayMarks x = Nets.empty(4);
        due.promise(31);
        due.is("worst(15)", x.worst(15), 3);
        due.is("worst(0)", x.worst(0), 0);
        due.is("worst(8)", x.worst(8), 0);
        due.is("worst(16)", x.worst(16), -1);
        due.is("worst(-1)", x.worst(-1), -1);
        due.promise(32);
        due.is("next(15)", x.next(15), 0);
        due.is("next(12)", x.next(12), 2);
        due.is("next(8)", x.next(8), -1);
        due.is("next(0)", x.next(0), -1);
        due.is("next(16)", x.next(16), -1);
        due.promise(33);
        due.is("mean(15)", x.mean(15), 9);
        x.chance(3, 100);
        due.is("mean(15): 3 first", x.mean(15), 108);
        due.promise(32);
        due.is("next(15) goes by the worst", x.next(15), 0);
        due.promise(33);
        for (int p = 0; p < 4; p++) {
            x.chance(p, 0);
        }
        due.is("mean(15) without chances", x.mean(15), 0);
        due.is("mean(0)", x.mean(0), 0);
        due.is("mean(8)", x.mean(8), 0);
        due.is("mean(16)", x.mean(16), -1);
        due.is("mean(-1)", x.mean(-1), -1);

        WayMarks star = Nets.star(3);
        star.rule(2, 0);
        due.promise(31);
        due.is("twins are done", star.worst(14), 0);
        due.is("all but twins", star.worst(15), 1);
        due.promise(32);
        due.is("twins are done", star.next(14), -1);
        due.is("all but twins", star.next(15), 0);
        due.promise(33);
        due.is("twins are done", star.mean(14), 0);
        star.chance(1, 10);
        due.is("each twin has its chance", star.mean(15), 13);

        WayMarks line = Nets.line(4);
        line.rule(1, 0);
        due.promise(32);
        due.is("a mark outside X", line.next(3), 2);
        due.promise(31);
        WayMarks many = Nets.empty(13);
        due.is("12 of 13", many.worst(4095), 11);
        due.is("13", many.worst(8191), -1);
        due.promise(32);
        due.is("13", many.next(8191), -1);
        due.is("12 of 13", many.next(8190), 1);
        due.promise(33);
        due.is("13", many.mean(8191), -1);
        due.is("12 of 13", many.mean(4095), 12 * 13 / 2 - 1);
    }

    private static void seeking() {
        due.promise(34);
        WayMarks star = Nets.star(3);
        due.is("star of 3", star.seek(15), 2);
        due.is("none", star.seek(0), 0);
        due.is("one", star.seek(4), 0);
        due.is("two leaves", star.seek(6), 1);
        due.is("others", star.seek(16), -1);
        due.is("negative", star.seek(-1), -1);
        WayMarks wide = Nets.star(4);
        due.is("star of 4", wide.seek(31), 3);
        due.is("three of its leaves", wide.seek(14), 2);
        WayMarks line = Nets.line(3);
        line.rule(1, 0);
        due.is("it goes round", line.seek(7), -2);
        due.is("found at once", line.seek(5), 1);
        WayMarks pair = Nets.line(2);
        pair.rule(1, 0);
        due.is("twins do not count", pair.seek(3), -2);
        due.is("one of them", pair.seek(2), 0);
        WayMarks ten = Nets.empty(10);
        due.is("ten that stay", ten.seek(1023), 9);
        ten.post();
        due.is("eleven", ten.seek(1), -1);
        ten.undo(1);
        due.is("ten again", ten.seek(3), 1);
    }

    private static void tree() {
        due.promise(35);
        due.is("one post", new WayMarks().tree(), 0);
        due.is("line of 2", Nets.line(2).tree(), 1);
        due.is("line of 16", Nets.line(16).tree(), 1);
        due.is("star of 3", Nets.star(3).tree(), 2);
        due.is("star of 15", Nets.star(15).tree(), 14);
        due.is("star whose middle is 1", Nets.of(4, 0, 1, 1, 2, 1, 3).tree(), 2);
        due.is("legs of two", Nets.of(7, 0, 1, 1, 2, 0, 3, 3, 4, 0, 5, 5, 6).tree(), 2);
        due.is("two knots", Nets.of(6, 0, 1, 0, 2, 0, 3, 1, 4, 1, 5).tree(), 2);
        WayMarks inner = Nets.of(10, 0, 1, 0, 2, 0, 3, 1, 4, 1, 5, 2, 6, 2, 7, 3, 8, 3, 9);
        due.is("one that no leaf leads to", inner.tree(), 3);
        due.is("as least() says", inner.least(), 3);
        due.is("a ring", Nets.ring(3).tree(), -1);
        due.is("two pieces", Nets.empty(2).tree(), -1);
        due.is("a ring and one apart", Nets.of(4, 0, 1, 1, 2, 2, 0).tree(), -1);
        WayMarks y = Nets.line(3);
        y.rule(2, 0);
        y.may(3, true);
        due.is("whatever the kind and need", y.tree(), 1);
    }

    /** Only the mark at 0, which shines on itself alone, parts the two. */
    private static void oneMarkParts() {
        WayMarks x = Nets.line(2);
        x.rule(4, 0);
        x.reach(1, 1);
        due.promise(31);
        due.is("worst(3)", x.worst(3), 1);
        due.promise(32);
        due.is("next(3)", x.next(3), 0);
        due.promise(33);
        due.is("mean(3)", x.mean(3), 2);
        due.promise(34);
        due.is("seek(3)", x.seek(3), 1);
    }

    /** What was seen of a post that is undone counts no more. */
    private static void afterUndo() {
        due.promise(36);
        WayMarks x = Nets.empty(4);
        x.clash(0);
        x.undo(1);
        due.is("clash(3)", x.clash(3), -1);
        due.is("clash(8)", x.clash(8), -2);
        due.is("least()", x.least(), 2);
        due.is("every()", x.every(), 3);
        due.is("shown()", x.shown(), 1);
        due.is("pair(1)", x.pair(1), -1);
        due.is("greedy()", x.greedy(), 2);
        due.is("worst(7)", x.worst(7), 2);
        due.is("worst(8)", x.worst(8), -1);
        due.is("seek(8)", x.seek(8), -1);
        x.rule(2, 0);
        due.is("twins(2)", x.twins(2), 18);
        due.is("twins(3)", x.twins(3), -1);
    }

    public static void main(String[] args) {
        oneMarkParts();
        afterUndo();
        parts();
        clash();
        twins();
        fewest();
        cheapest();
        latestSet();
        shown();
        greedy();
        words();
        asking();
        seeking();
        tree();
        due.end();
    }
}

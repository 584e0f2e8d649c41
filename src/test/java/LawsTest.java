import java.util.Random;

/**
 * What the document says of how answers hang together: the smaller answers alone must tell the
 * greater ones. And numbers of well-known nets, which were found by others and in other ways.
 */
public final class LawsTest {
    private static final Due due = new Due();
    private static final int NETS = 40;
    private static final int NEVER = -2;

    /** A net that can be made anew, so that each object serves few calls, and with other numbers. */
    private static final class Plan {
        private final int posts;
        private final int[][] lengths;
        private final int[] reaches;
        private final int[] prices;
        private final int[] chances;
        private final int kind;
        private final int within;
        private final int faults;
        private final boolean lie;
        private final boolean yes;

        private Plan(Random random, int posts) {
            this.posts = posts;
            int longest = random.nextBoolean() ? 1 : 3;
            int thick = 1 + random.nextInt(8);
            lengths = new int[posts][posts];
            for (int a = 0; a < posts; a++) {
                for (int b = a + 1; b < posts; b++) {
                    boolean comes = random.nextInt(10) < thick;
                    lengths[a][b] = comes ? 1 + random.nextInt(longest) : 0;
                }
            }
            reaches = random.ints(posts, 0, 2 * longest + 1).toArray();
            prices = random.ints(posts, 1, 5).toArray();
            chances = random.ints(posts, 0, 4).toArray();
            kind = random.nextInt(5);
            within = kind == 3 ? random.nextInt(2 * longest + 1) : 0;
            faults = random.nextInt(3) == 0 ? random.nextInt(3) : 0;
            lie = random.nextBoolean();
            yes = random.nextInt(3) == 0;
        }

        /** Post p of the plan is post names[p] of the net. */
        private WayMarks made(int[] names) {
            WayMarks x = Nets.empty(posts);
            for (int a = 0; a < posts; a++) {
                for (int b = a + 1; b < posts; b++) {
                    x.road(names[a], names[b], lengths[a][b]);
                }
                x.reach(names[a], reaches[a]);
                x.price(names[a], prices[a]);
                x.chance(names[a], chances[a]);
            }
            x.rule(kind, within);
            x.may(faults, lie);
            x.want(yes);
            return x;
        }

        private WayMarks made() {
            int[] names = new int[posts];
            for (int p = 0; p < posts; p++) {
                names[p] = p;
            }
            return made(names);
        }

        private int[][] answers() {
            int[][] answers = new int[posts][posts];
            WayMarks x = made();
            for (int m = 0; m < posts; m++) {
                for (int p = 0; p < posts; p++) {
                    answers[m][p] = x.answer(m, p);
                }
            }
            return answers;
        }
    }

    private static boolean has(int set, int p) {
        return (set >> p & 1) == 1;
    }

    /** Of X those for which the mark answers as for p; 0 if one before p has that answer. */
    private static int staysWith(int[] answers, int x, int p) {
        int stays = 0;
        for (int q = 0; q < answers.length; q++) {
            if (has(x, q) && answers[q] == answers[p]) {
                stays |= 1 << q;
            }
        }
        return has(x, p) && Integer.numberOfTrailingZeros(stays) == p ? stays : 0;
    }

    private static void partsByAnswers(Plan plan, int[][] answers, int set) {
        due.sentence(16, "A MARK PARTS two POSTS if its ANSWERS for them are not the same");
        WayMarks x = plan.made();
        for (int a = 0; a < plan.posts; a++) {
            for (int b = a + 1; b < plan.posts; b++) {
                int count = 0;
                for (int m = 0; m < plan.posts; m++) {
                    count += has(set, m) && answers[m][a] != answers[m][b] ? 1 : 0;
                }
                due.is("parts", x.parts(set, a, b), count);
            }
        }
    }

    private static void clashByParts(Plan plan, int[][] answers, int set) {
        due.sentence(17, "the first pair that lacks; if none does, 1000 and the first POST that lacks");
        WayMarks x = plan.made();
        int all = (1 << plan.posts) - 1;
        int need = x.about(4);
        int clash = -1;
        for (int p = plan.posts - 1; p >= 0 && plan.yes; p--) {
            int count = 0;
            for (int m = 0; m < plan.posts; m++) {
                count += has(set, m) && answers[m][p] != (plan.kind == 0 ? 1000000 : 0) ? 1 : 0;
            }
            clash = count < need ? 1000 + p : clash;
        }
        for (int a = plan.posts - 1; a >= 0; a--) {
            for (int b = plan.posts - 1; b > a; b--) {
                boolean lacks = x.parts(all, a, b) > 0 && x.parts(set, a, b) < need;
                clash = lacks ? 16 * a + b : clash;
            }
        }
        due.is("clash", x.clash(set), clash);
    }

    private static void setsByClash(Plan plan) {
        due.sentence(19, "FEWEST is the least number of MARKS of a set that TELLS ALL, of these the first");
        WayMarks asked = plan.made();
        int fewest = NEVER;
        int fewestSet = 0;
        int every = 0;
        int cheapest = NEVER;
        int cheapestSet = 0;
        for (int set = 0; set < 1 << plan.posts; set++) {
            if (asked.clash(set) != -1) {
                continue;
            }
            int count = Integer.bitCount(set);
            int sum = 0;
            for (int p = 0; p < plan.posts; p++) {
                sum += has(set, p) ? plan.prices[p] : 0;
            }
            if (fewest == NEVER || count < fewest) {
                fewest = count;
                fewestSet = set;
                every = 0;
            }
            every += count == fewest ? 1 : 0;
            if (cheapest == NEVER || sum < cheapest) {
                cheapest = sum;
                cheapestSet = set;
            }
        }
        WayMarks x = plan.made();
        due.is("least", x.least(), fewest);
        due.is("set", x.set(), fewestSet);
        due.is("every", x.every(), every);
        due.sentence(21, "CHEAPEST that of the least sum of PRICES, of these the first");
        due.is("cheapest", x.cheapest(), cheapest);
        due.is("set", x.set(), cheapest == NEVER ? 0 : cheapestSet);
    }

    private static void fewestByShown(Plan plan) {
        due.sentence(23, "So FEWEST is NEED times as many at least");
        WayMarks x = plan.made();
        int fewest = x.least();
        due.is("least", fewest == NEVER || fewest >= x.about(4) * x.shown(), true);
        due.sentence(25, "until no pair lacks");
        x.want(false);
        fewest = x.least();
        int greedy = x.greedy();
        due.is("greedy where there is a set, and there alone", greedy >= 0, fewest >= 0);
        due.is("greedy is no fewer", greedy < 0 || greedy >= fewest, true);
        due.is("what greedy put tells all", greedy < 0 ? -1 : x.clash(x.set()), -1);
    }

    /** Of each set of posts what 0: worst, 1: next, 2: mean, 3: seek answers. */
    private static int[] table(Plan plan, int which) {
        int[] table = new int[1 << plan.posts];
        WayMarks x = plan.made();
        for (int set = 0; set < table.length; set++) {
            switch (which) {
                case 0:
                    table[set] = x.worst(set);
                    break;
                case 1:
                    table[set] = x.next(set);
                    break;
                case 2:
                    table[set] = x.mean(set);
                    break;
                default:
                    table[set] = x.seek(set);
                    break;
            }
        }
        return table;
    }

    private static boolean isDone(WayMarks x, int posts, int set) {
        int all = (1 << posts) - 1;
        for (int a = 0; a < posts; a++) {
            for (int b = a + 1; b < posts; b++) {
                if (has(set, a) && has(set, b) && x.parts(all, a, b) > 0) {
                    return false;
                }
            }
        }
        return true;
    }

    private static void askedOneByOne(Plan plan, int[][] answers) {
        int[] worst = table(plan, 0);
        int[] next = table(plan, 1);
        int[] mean = table(plan, 2);
        for (int x = 0; x < worst.length; x++) {
            int leastWorst = 1000;
            int first = -1;
            int leastMean = 1000000;
            int chances = 0;
            for (int p = 0; p < plan.posts; p++) {
                chances += has(x, p) ? plan.chances[p] : 0;
            }
            for (int m = 0; m < plan.posts; m++) {
                int most = 0;
                int sum = 0;
                boolean parted = true;
                for (int p = 0; p < plan.posts; p++) {
                    int stays = staysWith(answers[m], x, p);
                    parted = parted && stays != x;
                    most = Math.max(most, worst[stays]);
                    sum += mean[stays];
                }
                if (parted && 1 + most < leastWorst) {
                    leastWorst = 1 + most;
                    first = m;
                }
                leastMean = parted ? Math.min(leastMean, chances + sum) : leastMean;
            }
            boolean done = isDone(plan.made(), plan.posts, x);
            due.sentence(31, "WORST is the fewest MARKS that suffice whatever is answered");
            due.is("worst", worst[x], done ? 0 : leastWorst);
            due.sentence(32, "NEXT is the least POST whose MARK is the first of a best way: for WORST");
            due.is("next", next[x], done ? -1 : first);
            due.sentence(33, "MEAN the least sum, over all POSTS of X, of CHANCE times how many were asked");
            due.is("mean", mean[x], done ? 0 : leastMean);
        }
    }

    /** Each number must follow from less ones; then, from 0 on, all of them are as due. */
    private static void soughtRoundByRound(Plan plan, int[][] answers) {
        due.sentence(34, "ROUNDS is the fewest rounds by which it is found whatever is answered");
        int[] rounds = table(plan, 3);
        WayMarks net = plan.made();
        for (int x = 0; x < rounds.length; x++) {
            int fewest = NEVER;
            for (int m = 0; m < plan.posts; m++) {
                int most = 0;
                for (int p = 0; p < plan.posts && most != NEVER; p++) {
                    int stays = staysWith(answers[m], x, p);
                    int then = 0;
                    if (Integer.bitCount(stays) > 1) {
                        then = rounds[spread(net, plan.posts, stays)];
                    }
                    most = then == NEVER ? NEVER : Math.max(most, then);
                }
                if (most != NEVER && (fewest == NEVER || most + 1 < fewest)) {
                    fewest = most + 1;
                }
            }
            due.is("seek", rounds[x], Integer.bitCount(x) < 2 ? 0 : fewest);
        }
    }

    private static int spread(WayMarks net, int posts, int stays) {
        int spread = stays;
        for (int p = 0; p < posts; p++) {
            spread |= has(stays, p) ? net.of(p, 4) : 0;
        }
        return spread;
    }

    /** Numbers of posts say which comes first, but nothing of how many or how much. */
    private static void otherNames(Random random, int posts) {
        Plan plan = new Plan(random, posts);
        int[] names = new int[posts];
        for (int p = 0; p < posts; p++) {
            int with = random.nextInt(p + 1);
            names[p] = names[with];
            names[with] = p;
        }
        WayMarks x = plan.made();
        WayMarks y = plan.made(names);
        int set = random.nextInt(1 << posts) & random.nextInt(1 << posts);
        int named = 0;
        for (int p = 0; p < posts; p++) {
            named |= has(set, p) ? 1 << names[p] : 0;
        }
        sameByNames(x, set, y, named);
        for (int p = 0; p < posts; p++) {
            int v = random.nextInt(3);
            if (random.nextBoolean()) {
                x.word(p, v);
                y.word(names[p], v);
            }
        }
        due.promise(28);
        due.is("fits by other names", y.fits(), x.fits());
    }

    private static void sameByNames(WayMarks x, int set, WayMarks y, int named) {
        due.promise(17);
        due.is("clash by other names", y.clash(named) == -1, x.clash(set) == -1);
        due.promise(19);
        due.is("least by other names", y.least(), x.least());
        due.promise(20);
        due.is("every by other names", y.every(), x.every());
        due.promise(21);
        due.is("cheapest by other names", y.cheapest(), x.cheapest());
        due.promise(31);
        due.is("worst by other names", y.worst(named), x.worst(set));
        due.promise(33);
        due.is("mean by other names", y.mean(named), x.mean(set));
        due.promise(34);
        due.is("seek by other names", y.seek(named), x.seek(set));
        due.promise(35);
        due.is("tree by other names", y.tree(), x.tree());
    }

    private static void treesByFewest(Random random) {
        due.sentence(35, "this is FEWEST by KIND 0, NEED 1, YES not wanted, if all ROADS are of one length");
        int length = 1 + random.nextInt(1000);
        WayMarks x = new WayMarks();
        int posts = 1 + random.nextInt(16);
        int near = 1 + random.nextInt(posts);
        due.is("tree of one post", x.tree(), x.least());
        for (int p = 1; p < posts; p++) {
            x.post();
            due.is("a tree and one post apart", x.tree(), -1);
            x.road(p, Math.max(0, p - 1 - random.nextInt(near)), length);
            due.is("tree", x.tree(), x.least());
        }
    }

    private static WayMarks cube(int sides) {
        WayMarks x = Nets.empty(1 << sides);
        for (int p = 0; p < 1 << sides; p++) {
            for (int side = 0; side < sides; side++) {
                x.road(p, p ^ 1 << side, 1);
            }
        }
        return x;
    }

    private static WayMarks petersen() {
        WayMarks x = Nets.empty(10);
        for (int p = 0; p < 5; p++) {
            x.road(p, (p + 1) % 5, 1);
            x.road(p, p + 5, 1);
            x.road(p + 5, (p + 2) % 5 + 5, 1);
        }
        return x;
    }

    /** A ring and one post more, beside all of it. */
    private static WayMarks wheel(int rim) {
        WayMarks x = Nets.ring(rim);
        x.post();
        for (int p = 0; p < rim; p++) {
            x.road(p, rim, 1);
        }
        return x;
    }

    private static WayMarks twoSides(int left, int right) {
        WayMarks x = Nets.empty(left + right);
        for (int a = 0; a < left; a++) {
            for (int b = 0; b < right; b++) {
                x.road(a, left + b, 1);
            }
        }
        return x;
    }

    /** Known as the metric dimension. */
    private static void knownByWays() {
        due.sentence(19, "FEWEST by ways of nets that are known");
        due.is("cube of 3 sides", cube(3).least(), 3);
        due.is("cube of 4 sides", cube(4).least(), 4);
        due.is("Petersen's net", petersen().least(), 3);
        for (int rim = 7; rim <= 15; rim++) {
            due.is("wheel of " + rim, wheel(rim).least(), (2 * rim + 2) / 5);
        }
        for (int left = 2; left <= 8; left++) {
            due.is("two sides " + left, twoSides(left, 16 - left).least(), 14);
        }
        for (int posts = 3; posts <= 16; posts++) {
            WayMarks ring = Nets.ring(posts);
            due.is("ring of " + posts, ring.least(), 2);
            ring.may(1, false);
            // In a ring of 4 only the two themselves part two that face each other: so all.
            due.is("ring of " + posts + ", one out", ring.least(), posts == 4 ? 4 : 3);
            WayMarks line = Nets.line(posts);
            line.may(1, false);
            due.is("line of " + posts + ", one out", line.least(), 2);
        }
    }

    /** Known as identifying codes. */
    private static void knownByNear() {
        due.sentence(19, "FEWEST by NEAR, YES wanted, of nets that are known");
        for (int posts = 3; posts <= 16; posts++) {
            due.is("line of " + posts, leastNear(Nets.line(posts)), posts / 2 + 1);
        }
        for (int posts = 6; posts <= 16; posts++) {
            int fewest = posts % 2 == 0 ? posts / 2 : (posts + 3) / 2;
            due.is("ring of " + posts, leastNear(Nets.ring(posts)), fewest);
        }
        due.is("cube of 2 sides", leastNear(cube(2)), 3);
        due.is("cube of 3 sides", leastNear(cube(3)), 4);
        due.is("cube of 4 sides", leastNear(cube(4)), 7);
        for (int leaves = 3; leaves <= 15; leaves++) {
            due.is("star of " + leaves, leastNear(Nets.star(leaves)), leaves);
        }
    }

    private static int leastNear(WayMarks x) {
        x.rule(1, 0);
        x.want(true);
        return x.least();
    }

    private static void knownByAsking(Random random) {
        WayMarks line = Nets.line(16);
        line.rule(3, 7);
        for (int count = 1; count <= 12; count++) {
            due.sentence(31, "halving, as long as there are two");
            int halvings = 32 - Integer.numberOfLeadingZeros(count - 1);
            due.is("worst of the first " + count, line.worst((1 << count) - 1), halvings);
        }
        due.sentence(33, "of POSTS apart each is asked for, that of most CHANCE first");
        WayMarks apart = Nets.empty(12);
        int[] chances = random.ints(12, 0, 101).toArray();
        for (int p = 0; p < 12; p++) {
            apart.chance(p, chances[p]);
        }
        java.util.Arrays.sort(chances);
        int sum = 11 * chances[0];
        for (int i = 1; i < 12; i++) {
            sum += (12 - i) * chances[i];
        }
        due.is("mean", apart.mean(4095), sum);
    }

    public static void main(String[] args) {
        for (int seed = 0; seed < NETS; seed++) {
            Random random = new Random(seed);
            Plan plan = new Plan(random, 1 + random.nextInt(6));
            int[][] answers = plan.answers();
            for (int turn = 0; turn < 4; turn++) {
                int set = random.nextInt(1 << plan.posts);
                partsByAnswers(plan, answers, set);
                clashByParts(plan, answers, set);
            }
            setsByClash(plan);
            askedOneByOne(plan, answers);
            soughtRoundByRound(plan, answers);
            setsByClash(new Plan(random, 8));
            fewestByShown(new Plan(random, 1 + random.nextInt(16)));
            otherNames(random, 1 + random.nextInt(16));
            treesByFewest(random);
            knownByAsking(random);
        }
        knownByWays();
        knownByNear();
        due.end();
    }
}

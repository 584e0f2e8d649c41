import java.util.Arrays;

/**
 * A bench for nets of posts and roads in which one must tell where something is by few marks.
 * Pairs of posts and squares of posts by posts are both numbered 16 * a + b throughout.
 */
public final class WayMarks {
    public static final int NONE = -1;

    private static final int IMPOSSIBLE = -2;
    private static final int MOST_POSTS = 16;
    private static final int SQUARE = MOST_POSTS * MOST_POSTS;
    private static final int LONGEST_ROAD = 1000;
    private static final int NO_WAY = 1000000;
    private static final int MOST_REACH = 20000;
    private static final int MOST_PRICE = 1000;
    private static final int MOST_CHANCE = 100;
    private static final int MOST_FAULTS = 3;
    private static final int MOST_ASKED = 12;
    private static final int MOST_SOUGHT = 10;
    private static final int MOST_UNDONE = 60;
    private static final int MOST_BYTES = 400;
    private static final int CLASH_OF_YES = 1000;

    private static final int KIND_WAY = 0;
    private static final int KIND_NEAR = 1;
    private static final int KIND_BESIDE = 2;
    private static final int KIND_WITHIN = 3;
    private static final int KIND_LIT = 4;

    private final Net net = new Net();
    private final Past past = new Past();
    private final Tape tape = new Tape();
    private final Sight sight = new Sight();
    private final Choice choice = new Choice();
    private final Asking asking = new Asking();
    private final Seeking seeking = new Seeking();
    private boolean stale = true;
    private int latestSet = 0;

    public WayMarks() {
    }

    public int post() {
        if (net.posts >= MOST_POSTS) {
            return NONE;
        }
        beforeAct();
        net.posts++;
        return net.posts - 1;
    }

    public boolean road(int a, int b, int length) {
        if (!net.roadCanBe(a, b, length)) {
            return false;
        }
        beforeAct();
        net.layRoad(a, b, length);
        return true;
    }

    public boolean cut(int a, int b) {
        if (!net.isPost(a) || !net.isPost(b) || !net.hasRoad(a, b)) {
            return false;
        }
        beforeAct();
        net.layRoad(a, b, 0);
        return true;
    }

    public int feed(int a, int b, int c, int d, int e) {
        if (!tape.hasRoomFor(20)) {
            return NONE;
        }
        tape.takeFour(a);
        tape.takeFour(b);
        tape.takeFour(c);
        tape.takeFour(d);
        tape.takeFour(e);
        return tape.count;
    }

    public int roads(int n) {
        if (n < 0 || n > tape.count) {
            return NONE;
        }
        int came = 0;
        for (int at = 0; at + 4 <= n; at += 4) {
            int a = tape.byteAt(at);
            int b = tape.byteAt(at + 1);
            int length = 256 * tape.byteAt(at + 2) + tape.byteAt(at + 3);
            if (!net.roadCanBe(a, b, length)) {
                break;
            }
            // All that come are one act, and none is no act: so only the first is kept.
            if (came == 0) {
                beforeAct();
            }
            net.layRoad(a, b, length);
            came++;
        }
        tape.count = 0;
        return came;
    }

    public boolean reach(int post, int reach) {
        if (!net.isPost(post) || reach < 0 || reach > MOST_REACH) {
            return false;
        }
        beforeAct();
        net.reaches[post] = reach;
        return true;
    }

    public boolean price(int post, int price) {
        if (!net.isPost(post) || price < 1 || price > MOST_PRICE) {
            return false;
        }
        beforeAct();
        net.prices[post] = price;
        return true;
    }

    public boolean chance(int post, int chance) {
        if (!net.isPost(post) || chance < 0 || chance > MOST_CHANCE) {
            return false;
        }
        beforeAct();
        net.chances[post] = chance;
        return true;
    }

    public boolean rule(int kind, int r) {
        int most = kind == KIND_WITHIN ? MOST_REACH : 0;
        if (kind < KIND_WAY || kind > KIND_LIT || r < 0 || r > most) {
            return false;
        }
        beforeAct();
        net.kind = kind;
        net.within = r;
        return true;
    }

    public int may(int f, boolean lie) {
        if (f < 0 || f > MOST_FAULTS) {
            return NONE;
        }
        beforeAct();
        net.faults = f;
        net.lying = lie;
        return net.need();
    }

    public void want(boolean yes) {
        beforeAct();
        net.yesWanted = yes;
    }

    public int way(int a, int b) {
        if (!net.isPost(a) || !net.isPost(b)) {
            return NONE;
        }
        return freshSight().ways[16 * a + b];
    }

    public int of(int post, int what) {
        if (!net.isPost(post)) {
            return NONE;
        }
        switch (what) {
            case 0:
                return Integer.bitCount(net.besideBits(post));
            case 1:
                return net.reaches[post];
            case 2:
                return net.prices[post];
            case 3:
                return net.chances[post];
            case 4:
                return net.besideBits(post);
            case 5:
                return freshSight().countReachedFrom(post);
            default:
                return NONE;
        }
    }

    public int answer(int mark, int post) {
        if (!net.isPost(mark) || !net.isPost(post)) {
            return NONE;
        }
        return freshSight().answers[16 * mark + post];
    }

    public int parts(int set, int a, int b) {
        if (!net.isSet(set) || !net.isPost(a) || !net.isPost(b) || a == b) {
            return NONE;
        }
        int pair = 16 * Math.min(a, b) + Math.max(a, b);
        return Integer.bitCount(set & freshSight().parters[pair]);
    }

    public int clash(int set) {
        if (!net.isSet(set)) {
            return IMPOSSIBLE;
        }
        Sight seen = freshSight();
        int pair = seen.firstPairLacking(set, net.need());
        if (pair != NONE || !net.yesWanted) {
            return pair;
        }
        int post = seen.firstPostLacking(set, net.need());
        return post == NONE ? NONE : CLASH_OF_YES + post;
    }

    public int twins(int k) {
        return freshSight().twinPair(k);
    }

    public int least() {
        choice.search(net, freshSight(), false);
        return tellChoice();
    }

    public int every() {
        choice.search(net, freshSight(), false);
        return choice.bestCount;
    }

    public int cheapest() {
        choice.search(net, freshSight(), true);
        return tellChoice();
    }

    public int set() {
        return latestSet;
    }

    public int shown() {
        return freshSight().countApartPairs();
    }

    public int pair(int k) {
        return freshSight().apartPair(k);
    }

    public int greedy() {
        Sight seen = freshSight();
        int need = net.need();
        int set = seen.greedySet(need);
        int lacking = seen.countPairsLacking(set, need);
        if (lacking > 0) {
            return IMPOSSIBLE - lacking;
        }
        latestSet = set;
        return Integer.bitCount(set);
    }

    public int word(int mark, int v) {
        if (!net.isPost(mark) || net.hasWord(mark)) {
            return NONE;
        }
        beforeAct();
        net.worded |= 1 << mark;
        net.words[mark] = v;
        return Integer.bitCount(net.worded);
    }

    public int clear() {
        int were = Integer.bitCount(net.worded);
        beforeAct();
        net.worded = 0;
        return were;
    }

    public int fits() {
        int count = 0;
        for (int p = 0; p < net.posts; p++) {
            if (fitsWords(p)) {
                count++;
            }
        }
        return count;
    }

    public int where(int k) {
        int before = 0;
        for (int p = 0; p < net.posts; p++) {
            if (fitsWords(p)) {
                if (before == k) {
                    return p;
                }
                before++;
            }
        }
        return NONE;
    }

    public int against(int post) {
        return net.isPost(post) ? wordsAgainst(post) : NONE;
    }

    public int worst(int x) {
        if (!canBeAsked(x)) {
            return NONE;
        }
        asking.prepare(x, net, freshSight(), false);
        return asking.leastCost();
    }

    public int next(int x) {
        if (!canBeAsked(x)) {
            return NONE;
        }
        asking.prepare(x, net, freshSight(), false);
        return asking.firstMark();
    }

    public int mean(int x) {
        if (!canBeAsked(x)) {
            return NONE;
        }
        asking.prepare(x, net, freshSight(), true);
        return asking.leastCost();
    }

    public int seek(int x) {
        if (!net.isSet(x) || net.posts > MOST_SOUGHT) {
            return NONE;
        }
        return seeking.fewestRounds(x, freshSight());
    }

    public int tree() {
        Sight seen = freshSight();
        boolean onePiece = seen.countReachedFrom(0) == net.posts;
        if (!onePiece || net.countRoads() != net.posts - 1) {
            return NONE;
        }
        return seen.leavesLessKnots();
    }

    public int undo(int n) {
        if (n < 0 || n > past.count) {
            return NONE;
        }
        if (n > 0) {
            past.goBack(net, n);
            stale = true;
        }
        return n;
    }

    public int about(int what) {
        switch (what) {
            case 0:
                return net.posts;
            case 1:
                return net.countRoads();
            case 2:
                return net.kind;
            case 3:
                return net.within;
            case 4:
                return net.need();
            case 5:
                return net.yesWanted ? 1 : 0;
            case 6:
                return Integer.bitCount(net.worded);
            case 7:
                return past.count;
            case 8:
                return tape.count;
            default:
                return NONE;
        }
    }

    /** Every change of the net goes through here, so that it can be undone and is seen. */
    private void beforeAct() {
        past.keep(net);
        stale = true;
    }

    private Sight freshSight() {
        if (stale) {
            sight.look(net);
            stale = false;
        }
        return sight;
    }

    private int tellChoice() {
        if (choice.bestCount == 0) {
            return IMPOSSIBLE;
        }
        latestSet = choice.bestSet;
        return choice.bestSum;
    }

    private int wordsAgainst(int post) {
        Sight seen = freshSight();
        int bits = 0;
        for (int m = 0; m < net.posts; m++) {
            if (net.hasWord(m) && net.words[m] != seen.answers[16 * m + post]) {
                bits |= 1 << m;
            }
        }
        return bits;
    }

    private boolean fitsWords(int post) {
        int allowed = net.lying ? net.faults : 0;
        return Integer.bitCount(wordsAgainst(post)) <= allowed;
    }

    private boolean canBeAsked(int x) {
        return net.isSet(x) && Integer.bitCount(x) <= MOST_ASKED;
    }

    /** All that acts change. */
    private static final class Net {
        private int posts = 1;
        private int kind = KIND_WAY;
        private int within = 0;
        private int faults = 0;
        private boolean lying = false;
        private boolean yesWanted = false;
        private int worded = 0;
        private final int[] lengths = new int[SQUARE];
        private final int[] reaches = new int[MOST_POSTS];
        private final int[] prices = new int[MOST_POSTS];
        private final int[] chances = new int[MOST_POSTS];
        private final int[] words = new int[MOST_POSTS];

        private Net() {
            Arrays.fill(prices, 1);
            Arrays.fill(chances, 1);
        }

        private void become(Net other) {
            posts = other.posts;
            kind = other.kind;
            within = other.within;
            faults = other.faults;
            lying = other.lying;
            yesWanted = other.yesWanted;
            worded = other.worded;
            System.arraycopy(other.lengths, 0, lengths, 0, SQUARE);
            System.arraycopy(other.reaches, 0, reaches, 0, MOST_POSTS);
            System.arraycopy(other.prices, 0, prices, 0, MOST_POSTS);
            System.arraycopy(other.chances, 0, chances, 0, MOST_POSTS);
            System.arraycopy(other.words, 0, words, 0, MOST_POSTS);
        }

        private boolean isPost(int p) {
            return p >= 0 && p < posts;
        }

        private boolean isSet(int bits) {
            return bits >= 0 && bits < (1 << posts);
        }

        private boolean hasRoad(int a, int b) {
            return lengths[16 * a + b] > 0;
        }

        private boolean hasWord(int m) {
            return (worded >> m & 1) == 1;
        }

        private boolean roadCanBe(int a, int b, int length) {
            return isPost(a) && isPost(b) && a != b
                && length >= 1 && length <= LONGEST_ROAD && !hasRoad(a, b);
        }

        /** A length of 0 takes the road away. */
        private void layRoad(int a, int b, int length) {
            lengths[16 * a + b] = length;
            lengths[16 * b + a] = length;
        }

        private int besideBits(int p) {
            int bits = 0;
            for (int q = 0; q < posts; q++) {
                if (hasRoad(p, q)) {
                    bits |= 1 << q;
                }
            }
            return bits;
        }

        private int countRoads() {
            int ends = 0;
            for (int p = 0; p < posts; p++) {
                ends += Integer.bitCount(besideBits(p));
            }
            return ends / 2;
        }

        private int need() {
            return lying ? 2 * faults + 1 : faults + 1;
        }
    }

    /** What the net was before each of the latest acts, in a ring. */
    private static final class Past {
        private final Net[] kept = new Net[MOST_UNDONE];
        private int top = 0;
        private int count = 0;

        private Past() {
            for (int i = 0; i < MOST_UNDONE; i++) {
                kept[i] = new Net();
            }
        }

        private void keep(Net now) {
            Net place = kept[top];
            if (place != null) {
                place.become(now);
                top = (top + 1) % MOST_UNDONE;
                count = Math.min(count + 1, MOST_UNDONE);
            }
        }

        /** Asks that n be at most count. */
        private void goBack(Net now, int n) {
            top = Math.floorMod(top - n, MOST_UNDONE);
            count -= n;
            Net then = kept[top];
            if (then != null) {
                now.become(then);
            }
        }
    }

    /** Bytes that wait to be read as roads. */
    private static final class Tape {
        private final int[] bytes = new int[MOST_BYTES];
        private int count = 0;

        private boolean hasRoomFor(int more) {
            return count + more <= MOST_BYTES;
        }

        private void takeFour(int number) {
            for (int shift = 24; shift >= 0 && count < MOST_BYTES; shift -= 8) {
                bytes[count] = number >>> shift & 255;
                count++;
            }
        }

        private int byteAt(int at) {
            return at >= 0 && at < count ? bytes[at] : 0;
        }
    }

    /** What follows from the net: ways, answers, and which marks part which posts. */
    private static final class Sight {
        private int posts = 0;
        private final int[] beside = new int[MOST_POSTS];
        private final int[] ways = new int[SQUARE];
        private final int[] answers = new int[SQUARE];
        /** Of a pair a, b (a less than b) the posts whose marks part it, as bits. */
        private final int[] parters = new int[SQUARE];
        /** Of a post the posts whose marks say yes for it, as bits. */
        private final int[] yes = new int[MOST_POSTS];
        /** Of a mark m, from 16 * m on, the posts of each of its answers, as bits. */
        private final int[] groups = new int[SQUARE];
        private final int[] groupCounts = new int[MOST_POSTS];

        private void look(Net net) {
            posts = net.posts;
            for (int p = 0; p < posts; p++) {
                beside[p] = net.besideBits(p);
            }
            findWays(net);
            for (int m = 0; m < posts; m++) {
                for (int p = 0; p < posts; p++) {
                    answers[16 * m + p] = answerOf(net, m, p);
                }
                groupPosts(m);
            }
            findParters();
            findYes(net.kind == KIND_WAY ? NO_WAY : 0);
        }

        private void findWays(Net net) {
            for (int a = 0; a < posts; a++) {
                for (int b = 0; b < posts; b++) {
                    int road = net.hasRoad(a, b) ? net.lengths[16 * a + b] : NO_WAY;
                    ways[16 * a + b] = a == b ? 0 : road;
                }
            }
            for (int over = 0; over < posts; over++) {
                for (int a = 0; a < posts; a++) {
                    shortenWays(a, over);
                }
            }
        }

        private void shortenWays(int a, int over) {
            int first = ways[16 * a + over];
            if (first >= NO_WAY) {
                return;
            }
            for (int b = 0; b < posts; b++) {
                int sum = first + ways[16 * over + b];
                if (sum < ways[16 * a + b]) {
                    ways[16 * a + b] = sum;
                }
            }
        }

        private int answerOf(Net net, int m, int p) {
            int far = ways[16 * m + p];
            boolean isBeside = (beside[m] >> p & 1) == 1;
            switch (net.kind) {
                case KIND_NEAR:
                    return p == m || isBeside ? 1 : 0;
                case KIND_BESIDE:
                    return isBeside ? 1 : 0;
                case KIND_WITHIN:
                    return far <= net.within ? 1 : 0;
                case KIND_LIT:
                    return far <= net.reaches[m] ? 1 : 0;
                default:
                    return far;
            }
        }

        private void groupPosts(int m) {
            int count = 0;
            int grouped = 0;
            for (int p = 0; p < posts; p++) {
                if ((grouped >> p & 1) == 0) {
                    int group = sameAnswer(m, p);
                    groups[16 * m + count] = group;
                    grouped |= group;
                    count++;
                }
            }
            groupCounts[m] = count;
        }

        private int sameAnswer(int m, int p) {
            int bits = 0;
            for (int q = 0; q < posts; q++) {
                if (answers[16 * m + q] == answers[16 * m + p]) {
                    bits |= 1 << q;
                }
            }
            return bits;
        }

        private void findParters() {
            for (int a = 0; a < posts; a++) {
                for (int b = a + 1; b < posts; b++) {
                    int bits = 0;
                    for (int m = 0; m < posts; m++) {
                        if (answers[16 * m + a] != answers[16 * m + b]) {
                            bits |= 1 << m;
                        }
                    }
                    parters[16 * a + b] = bits;
                }
            }
        }

        private void findYes(int no) {
            for (int p = 0; p < posts; p++) {
                int bits = 0;
                for (int m = 0; m < posts; m++) {
                    if (answers[16 * m + p] != no) {
                        bits |= 1 << m;
                    }
                }
                yes[p] = bits;
            }
        }

        private int countBeside(int p) {
            return Integer.bitCount(beside[p]);
        }

        private int countReachedFrom(int p) {
            int count = 0;
            for (int q = 0; q < posts; q++) {
                if (ways[16 * p + q] < NO_WAY) {
                    count++;
                }
            }
            return count;
        }

        /** The number of a tree; asks that the net be one. */
        private int leavesLessKnots() {
            int leaves = 0;
            int knots = 0;
            for (int p = 0; p < posts; p++) {
                if (countBeside(p) == 1) {
                    leaves++;
                    knots |= knotOfLeaf(p);
                }
            }
            boolean isLine = leaves > 0 && knots == 0;
            return isLine ? 1 : leaves - Integer.bitCount(knots);
        }

        /** The knot that a leaf of a tree leads to, as a bit; 0 if it leads to a leaf. */
        private int knotOfLeaf(int leaf) {
            int back = 1 << leaf;
            int ahead = beside[leaf];
            for (int step = 0; step < posts; step++) {
                int post = Integer.numberOfTrailingZeros(ahead);
                if (post >= posts) {
                    return 0;
                }
                if (countBeside(post) >= 3) {
                    return ahead;
                }
                int onward = beside[post] & ~back;
                back = ahead;
                ahead = onward;
            }
            return 0;
        }

        private boolean areTwins(int a, int b) {
            return a == b || parters[16 * Math.min(a, b) + Math.max(a, b)] == 0;
        }

        private int twinPair(int k) {
            int before = 0;
            for (int a = 0; a < posts; a++) {
                for (int b = a + 1; b < posts; b++) {
                    if (areTwins(a, b)) {
                        if (before == k) {
                            return 16 * a + b;
                        }
                        before++;
                    }
                }
            }
            return NONE;
        }

        private boolean pairLacks(int a, int b, int set, int need) {
            int bits = parters[16 * a + b];
            return bits != 0 && Integer.bitCount(set & bits) < need;
        }

        private int firstPairLacking(int set, int need) {
            for (int a = 0; a < posts; a++) {
                for (int b = a + 1; b < posts; b++) {
                    if (pairLacks(a, b, set, need)) {
                        return 16 * a + b;
                    }
                }
            }
            return NONE;
        }

        private int countPairsLacking(int set, int need) {
            int count = 0;
            for (int a = 0; a < posts; a++) {
                for (int b = a + 1; b < posts; b++) {
                    if (pairLacks(a, b, set, need)) {
                        count++;
                    }
                }
            }
            return count;
        }

        private int firstPostLacking(int set, int need) {
            for (int p = 0; p < posts; p++) {
                if (Integer.bitCount(set & yes[p]) < need) {
                    return p;
                }
            }
            return NONE;
        }

        private int countApartPairs() {
            return goThroughApartPairs(NONE, true);
        }

        private int apartPair(int k) {
            return goThroughApartPairs(k, false);
        }

        /** Pairs, none of which shares a parter with one before: how many, or the k-th. */
        private int goThroughApartPairs(int k, boolean counting) {
            int used = 0;
            int before = 0;
            for (int a = 0; a < posts; a++) {
                for (int b = a + 1; b < posts; b++) {
                    int bits = parters[16 * a + b];
                    if (bits != 0 && (bits & used) == 0) {
                        if (before == k) {
                            return 16 * a + b;
                        }
                        used |= bits;
                        before++;
                    }
                }
            }
            return counting ? before : NONE;
        }

        private int greedySet(int need) {
            int set = 0;
            for (int turn = 0; turn < posts; turn++) {
                int mark = markPartingMost(set, need);
                if (mark == NONE) {
                    return set;
                }
                set |= 1 << mark;
            }
            return set;
        }

        /** Of the marks not in the set; none if no pair lacks or none parts one that does. */
        private int markPartingMost(int set, int need) {
            int best = NONE;
            int most = 0;
            for (int m = 0; m < posts; m++) {
                if ((set >> m & 1) == 0) {
                    int count = countLackingPartedBy(m, set, need);
                    if (count > most) {
                        most = count;
                        best = m;
                    }
                }
            }
            return best;
        }

        private int countLackingPartedBy(int m, int set, int need) {
            int count = 0;
            for (int a = 0; a < posts; a++) {
                for (int b = a + 1; b < posts; b++) {
                    boolean parted = (parters[16 * a + b] >> m & 1) == 1;
                    if (parted && pairLacks(a, b, set, need)) {
                        count++;
                    }
                }
            }
            return count;
        }
    }

    /**
     * The fewest or cheapest set that tells all. To tell all is to have so many marks as are
     * needed of each of some sets, here the demands: the parters of each pair that is not
     * twins and, if yes is wanted, the marks that say yes for each post.
     */
    private static final class Choice {
        private static final int ABOVE_ALL_SUMS = 1000000;

        private final int[] demands = new int[SQUARE];
        private int demandCount = 0;
        private int need = 1;
        private final int[] costs = new int[MOST_POSTS];
        private int leastCost = 1;
        private int tightest = 0;
        private int stillNeeded = 0;
        private int bestSum = 0;
        private int bestSet = 0;
        private int bestCount = 0;

        /** Leaves how many sets are best (0 if none tells all), the first one, and its sum. */
        private void search(Net net, Sight sight, boolean byPrice) {
            need = net.need();
            leastCost = MOST_PRICE;
            for (int p = 0; p < net.posts; p++) {
                costs[p] = byPrice ? net.prices[p] : 1;
                leastCost = Math.min(leastCost, costs[p]);
            }
            gatherDemands(net, sight);
            bestSum = ABOVE_ALL_SUMS;
            bestSet = 0;
            bestCount = 0;
            decide(0, (1 << net.posts) - 1, 0, 0);
        }

        private void gatherDemands(Net net, Sight sight) {
            demandCount = 0;
            for (int a = 0; a < net.posts; a++) {
                for (int b = a + 1; b < net.posts; b++) {
                    if (!sight.areTwins(a, b)) {
                        demand(sight.parters[16 * a + b]);
                    }
                }
                if (net.yesWanted) {
                    demand(sight.yes[a]);
                }
            }
        }

        /** A demand that holds another one is met with it, and is not kept. */
        private void demand(int bits) {
            for (int i = 0; i < demandCount; i++) {
                int old = demands[i];
                if ((old & bits) == old) {
                    return;
                }
            }
            int kept = 0;
            for (int i = 0; i < demandCount; i++) {
                int old = demands[i];
                if ((old & bits) != bits) {
                    demands[kept] = old;
                    kept++;
                }
            }
            if (kept < SQUARE) {
                demands[kept] = bits;
                demandCount = kept + 1;
            }
        }

        /**
         * Tries all sets that hold the put marks and else only open ones, but those that some
         * demand or the best sum so far rules out. Costs are above 0, so a set that meets all
         * demands needs no mark more, and each best set is come upon just once.
         */
        private void decide(int put, int open, int sum, int depth) {
            if (depth > MOST_POSTS || !canBeMet(put, open)) {
                return;
            }
            if (sum + stillNeeded * leastCost > bestSum) {
                return;
            }
            if (tightest == 0) {
                takeIfBest(put, sum);
                return;
            }
            int post = Integer.numberOfTrailingZeros(tightest);
            if (post < MOST_POSTS) {
                int rest = open & ~(1 << post);
                decide(put | 1 << post, rest, sum + costs[post], depth + 1);
                decide(put, rest, sum, depth + 1);
            }
        }

        /**
         * Whether the put marks and the open ones meet all demands. Leaves how many more are
         * needed at least, and the open ones of the demand that has fewest to spare (0 if the
         * put ones meet all).
         */
        private boolean canBeMet(int put, int open) {
            int leastSpare = MOST_POSTS;
            int counted = 0;
            tightest = 0;
            stillNeeded = 0;
            for (int i = 0; i < demandCount; i++) {
                int lack = need - Integer.bitCount(put & demands[i]);
                if (lack > 0) {
                    int free = open & demands[i];
                    int spare = Integer.bitCount(free) - lack;
                    if (spare < 0) {
                        return false;
                    }
                    if (spare < leastSpare) {
                        leastSpare = spare;
                        tightest = free;
                    }
                    // Only demands that share no open mark each need marks of their own.
                    if ((free & counted) == 0) {
                        counted |= free;
                        stillNeeded += lack;
                    }
                }
            }
            return true;
        }

        private void takeIfBest(int set, int sum) {
            if (sum < bestSum) {
                bestSum = sum;
                bestSet = set;
                bestCount = 1;
            } else if (sum == bestSum) {
                bestSet = Math.min(bestSet, set);
                bestCount++;
            }
        }
    }

    /**
     * Marks asked one after another. Twins are never parted, so those of X count as one place,
     * and X is done when one place is left. Sets of places are bits, place i being 1 << i.
     */
    private static final class Asking {
        private static final int NEVER = 1000000000;
        private static final int UNKNOWN = -1;

        private final int[] costs = new int[1 << MOST_ASKED];
        private final int[] heads = new int[MOST_ASKED];
        private final int[] chances = new int[MOST_ASKED];
        private int places = 0;
        private int marks = 0;
        private boolean summing = false;
        /** Of a mark m, from 16 * m on, the places of each of its answers. */
        private final int[] groups = new int[SQUARE];
        private final int[] groupCounts = new int[MOST_POSTS];

        /** Summing is for the mean; else it is for the worst. */
        private void prepare(int x, Net net, Sight sight, boolean forMean) {
            summing = forMean;
            marks = net.posts;
            findPlaces(x, net, sight);
            for (int m = 0; m < marks; m++) {
                groupPlaces(m, sight);
            }
            int sets = 1 << places;
            for (int set = 0; set < sets; set++) {
                costs[set] = UNKNOWN;
            }
        }

        private void findPlaces(int x, Net net, Sight sight) {
            places = 0;
            for (int p = 0; p < net.posts; p++) {
                if ((x >> p & 1) == 1) {
                    int place = placeOf(p, sight);
                    if (place == places && places < MOST_ASKED) {
                        heads[place] = p;
                        chances[place] = 0;
                        places++;
                    }
                    if (place < places) {
                        chances[place] += net.chances[p];
                    }
                }
            }
        }

        /** The place of its twins, or that behind the last. */
        private int placeOf(int p, Sight sight) {
            for (int i = 0; i < places; i++) {
                if (sight.areTwins(heads[i], p)) {
                    return i;
                }
            }
            return places;
        }

        private void groupPlaces(int m, Sight sight) {
            int count = 0;
            for (int g = 0; g < sight.groupCounts[m]; g++) {
                int group = sight.groups[16 * m + g];
                int bits = 0;
                for (int i = 0; i < places; i++) {
                    bits |= (group >> heads[i] & 1) << i;
                }
                if (bits != 0) {
                    groups[16 * m + count] = bits;
                    count++;
                }
            }
            groupCounts[m] = count;
        }

        private int leastCost() {
            int cost = costOf((1 << places) - 1, 0);
            return cost == NEVER ? IMPOSSIBLE : cost;
        }

        private int firstMark() {
            int all = (1 << places) - 1;
            int cost = costOf(all, 0);
            if (places < 2 || cost == NEVER) {
                return NONE;
            }
            for (int m = 0; m < marks; m++) {
                if (costOfAsking(m, all, 0) == cost) {
                    return m;
                }
            }
            return NONE;
        }

        private int costOf(int set, int depth) {
            if ((set & set - 1) == 0) {
                return 0;
            }
            if (depth > MOST_ASKED) {
                return NEVER;
            }
            if (costs[set] == UNKNOWN) {
                int best = NEVER;
                for (int m = 0; m < marks; m++) {
                    best = Math.min(best, costOfAsking(m, set, depth));
                }
                costs[set] = best;
            }
            return costs[set];
        }

        /** A mark that parts nothing of the set is no step ahead: never. */
        private int costOfAsking(int m, int set, int depth) {
            int after = 0;
            for (int g = 0; g < groupCounts[m]; g++) {
                int stays = set & groups[16 * m + g];
                if (stays == set) {
                    return NEVER;
                }
                int cost = costOf(stays, depth + 1);
                if (cost == NEVER) {
                    return NEVER;
                }
                after = summing ? after + cost : Math.max(after, cost);
            }
            return after + (summing ? chanceOf(set) : 1);
        }

        private int chanceOf(int set) {
            int sum = 0;
            for (int i = 0; i < places; i++) {
                sum += (set >> i & 1) * chances[i];
            }
            return sum;
        }
    }

    /** Something that moves between two answers. */
    private static final class Seeking {
        private static final int SETS = 1 << MOST_SOUGHT;

        private final int[] rounds = new int[SETS];
        /** Of a set that and all that is beside it. */
        private final int[] spreads = new int[SETS];

        /** Asks for ten posts at most, and a set of them. */
        private int fewestRounds(int x, Sight sight) {
            int sets = Math.min(1 << sight.posts, SETS);
            if (x < 0 || x >= sets) {
                return NONE;
            }
            prepare(sets, sight);
            for (int round = 1; round <= sets && rounds[x] == IMPOSSIBLE; round++) {
                if (!findInRound(round, sets, sight)) {
                    return IMPOSSIBLE;
                }
            }
            return rounds[x];
        }

        private void prepare(int sets, Sight sight) {
            spreads[0] = 0;
            rounds[0] = 0;
            for (int s = 1; s < sets; s++) {
                int p = Integer.numberOfTrailingZeros(s);
                int others = s & s - 1;
                spreads[s] = spreads[others] | 1 << p | sight.beside[p];
                rounds[s] = others == 0 ? 0 : IMPOSSIBLE;
            }
        }

        /** Whether there is a set from which it takes just so many rounds. */
        private boolean findInRound(int round, int sets, Sight sight) {
            boolean some = false;
            for (int s = 0; s < sets; s++) {
                if (rounds[s] == IMPOSSIBLE && someMarkFinds(s, round, sight)) {
                    rounds[s] = round;
                    some = true;
                }
            }
            return some;
        }

        private boolean someMarkFinds(int set, int round, Sight sight) {
            for (int m = 0; m < sight.posts; m++) {
                if (markFinds(m, set, round, sight)) {
                    return true;
                }
            }
            return false;
        }

        private boolean markFinds(int m, int set, int round, Sight sight) {
            for (int g = 0; g < sight.groupCounts[m]; g++) {
                int stays = set & sight.groups[16 * m + g];
                if ((stays & stays - 1) != 0) {
                    int then = rounds[spreads[stays]];
                    if (then == IMPOSSIBLE || then >= round) {
                        return false;
                    }
                }
            }
            return true;
        }
    }
}

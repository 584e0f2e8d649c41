import java.util.ArrayList;
import java.util.Arrays;
import java.util.HashMap;
import java.util.List;
import java.util.Map;

/**
 * The document again, in another way and without any care for speed: every set is tried, every
 * pair is looked at, every act keeps a copy. It is what ModelTest holds WayMarks against.
 */
final class SlowMarks {
    static final int FAR = 1000000;

    /** All that acts change, each as plainly as the document tells it. */
    static final class State {
        int n = 1;
        int kind;
        int r;
        int f;
        boolean lie;
        boolean yes;
        Map<Integer, Integer> roads = new HashMap<>();
        Map<Integer, Integer> words = new HashMap<>();
        int[] reach = new int[16];
        int[] price = new int[16];
        int[] chance = new int[16];

        State() {
            Arrays.fill(price, 1);
            Arrays.fill(chance, 1);
        }

        State copy() {
            State c = new State();
            c.n = n;
            c.kind = kind;
            c.r = r;
            c.f = f;
            c.lie = lie;
            c.yes = yes;
            c.roads = new HashMap<>(roads);
            c.words = new HashMap<>(words);
            c.reach = reach.clone();
            c.price = price.clone();
            c.chance = chance.clone();
            return c;
        }

        boolean is(int p) {
            return 0 <= p && p < n;
        }

        int key(int a, int b) {
            return a < b ? 100 * a + b : 100 * b + a;
        }

        boolean joined(int a, int b) {
            return roads.containsKey(key(a, b));
        }

        boolean canJoin(int a, int b, int length) {
            return is(a) && is(b) && a != b && length >= 1 && length <= 1000 && !joined(a, b);
        }

        int need() {
            return lie ? 2 * f + 1 : f + 1;
        }
    }

    State s = new State();
    List<State> log = new ArrayList<>();
    List<Integer> tape = new ArrayList<>();
    int latest;

    void act() {
        log.add(s.copy());
        if (log.size() > 60) {
            log.remove(0);
        }
    }

    int post() {
        if (s.n == 16) {
            return -1;
        }
        act();
        return s.n++;
    }

    boolean road(int a, int b, int length) {
        if (!s.canJoin(a, b, length)) {
            return false;
        }
        act();
        s.roads.put(s.key(a, b), length);
        return true;
    }

    boolean cut(int a, int b) {
        if (!s.is(a) || !s.is(b) || !s.joined(a, b)) {
            return false;
        }
        act();
        s.roads.remove(s.key(a, b));
        return true;
    }

    int feed(int... numbers) {
        if (tape.size() + 20 > 400) {
            return -1;
        }
        for (int number : numbers) {
            for (int i = 3; i >= 0; i--) {
                tape.add((int) ((((long) number & 0xffffffffL) / (1L << 8 * i)) % 256));
            }
        }
        return tape.size();
    }

    int roads(int n) {
        if (n < 0 || n > tape.size()) {
            return -1;
        }
        State before = s.copy();
        List<Integer> read = new ArrayList<>(tape.subList(0, n));
        tape.clear();
        int came = 0;
        while (read.size() >= 4) {
            int length = read.get(2) * 256 + read.get(3);
            if (!s.canJoin(read.get(0), read.get(1), length)) {
                break;
            }
            s.roads.put(s.key(read.get(0), read.get(1)), length);
            came++;
            read = read.subList(4, read.size());
        }
        if (came > 0) {
            State now = s;
            s = before;
            act();
            s = now;
        }
        return came;
    }

    boolean put(int[] what, int post, int value, int low, int high) {
        return s.is(post) && value >= low && value <= high;
    }

    boolean reach(int p, int v) {
        if (!put(s.reach, p, v, 0, 20000)) {
            return false;
        }
        act();
        s.reach[p] = v;
        return true;
    }

    boolean price(int p, int v) {
        if (!put(s.price, p, v, 1, 1000)) {
            return false;
        }
        act();
        s.price[p] = v;
        return true;
    }

    boolean chance(int p, int v) {
        if (!put(s.chance, p, v, 0, 100)) {
            return false;
        }
        act();
        s.chance[p] = v;
        return true;
    }

    boolean rule(int kind, int r) {
        boolean good = kind == 3 ? r >= 0 && r <= 20000 : kind >= 0 && kind <= 4 && r == 0;
        if (good) {
            act();
            s.kind = kind;
            s.r = r;
        }
        return good;
    }

    int may(int f, boolean lie) {
        if (f < 0 || f > 3) {
            return -1;
        }
        act();
        s.f = f;
        s.lie = lie;
        return s.need();
    }

    void want(boolean yes) {
        act();
        s.yes = yes;
    }

    /** Bellman and Ford: as many rounds over all roads as there are posts. */
    int[] waysFrom(int a) {
        int[] d = new int[s.n];
        Arrays.fill(d, FAR);
        d[a] = 0;
        for (int i = 0; i < s.n; i++) {
            for (Map.Entry<Integer, Integer> e : s.roads.entrySet()) {
                int u = e.getKey() / 100;
                int v = e.getKey() % 100;
                d[u] = Math.min(d[u], d[v] + e.getValue());
                d[v] = Math.min(d[v], d[u] + e.getValue());
            }
        }
        return d;
    }

    int way(int a, int b) {
        return s.is(a) && s.is(b) ? waysFrom(a)[b] : -1;
    }

    int beside(int p) {
        int bits = 0;
        for (int q = 0; q < s.n; q++) {
            if (q != p && s.joined(p, q)) {
                bits += 1 << q;
            }
        }
        return bits;
    }

    int of(int p, int what) {
        if (!s.is(p) || what < 0 || what > 5) {
            return -1;
        }
        int led = 0;
        for (int d : waysFrom(p)) {
            led += d < FAR ? 1 : 0;
        }
        int[] all = {Integer.bitCount(beside(p)), s.reach[p], s.price[p], s.chance[p], beside(p), led};
        return all[what];
    }

    int answer(int m, int p) {
        if (!s.is(m) || !s.is(p)) {
            return -1;
        }
        boolean side = (beside(m) & 1 << p) != 0;
        if (s.kind == 1) {
            return side || m == p ? 1 : 0;
        }
        if (s.kind == 2) {
            return side ? 1 : 0;
        }
        int d = waysFrom(m)[p];
        if (s.kind == 0) {
            return d;
        }
        return d <= (s.kind == 3 ? s.r : s.reach[m]) ? 1 : 0;
    }

    int[][] table() {
        int[][] t = new int[s.n][s.n];
        for (int m = 0; m < s.n; m++) {
            for (int p = 0; p < s.n; p++) {
                t[m][p] = answer(m, p);
            }
        }
        return t;
    }

    static int parting(int[][] t, int set, int a, int b) {
        int count = 0;
        for (int m = 0; m < t.length; m++) {
            if ((set & 1 << m) != 0 && t[m][a] != t[m][b]) {
                count++;
            }
        }
        return count;
    }

    static boolean twin(int[][] t, int a, int b) {
        return parting(t, (1 << t.length) - 1, a, b) == 0;
    }

    boolean set(int x) {
        return x >= 0 && x < 1 << s.n;
    }

    int parts(int set, int a, int b) {
        return set(set) && s.is(a) && s.is(b) && a != b ? parting(table(), set, a, b) : -1;
    }

    int clashIn(int[][] t, int set) {
        for (int a = 0; a < s.n; a++) {
            for (int b = a + 1; b < s.n; b++) {
                if (parting(t, set, a, b) < s.need() && !twin(t, a, b)) {
                    return 16 * a + b;
                }
            }
        }
        for (int p = 0; s.yes && p < s.n; p++) {
            int count = 0;
            for (int m = 0; m < s.n; m++) {
                boolean no = s.kind == 0 ? t[m][p] == FAR : t[m][p] == 0;
                count += (set & 1 << m) != 0 && !no ? 1 : 0;
            }
            if (count < s.need()) {
                return 1000 + p;
            }
        }
        return -1;
    }

    int clash(int set) {
        return set(set) ? clashIn(table(), set) : -2;
    }

    List<Integer> twinList() {
        int[][] t = table();
        List<Integer> all = new ArrayList<>();
        for (int a = 0; a < s.n; a++) {
            for (int b = a + 1; b < s.n; b++) {
                if (twin(t, a, b)) {
                    all.add(16 * a + b);
                }
            }
        }
        return all;
    }

    static int kth(List<Integer> all, int k) {
        return k >= 0 && k < all.size() ? all.get(k) : -1;
    }

    int twins(int k) {
        return kth(twinList(), k);
    }

    /** Best sum, its first set, and how many sets have it; null without. */
    int[] best(boolean priced) {
        int[][] t = table();
        int[] best = null;
        for (int set = 0; set < 1 << s.n; set++) {
            int sum = 0;
            for (int p = 0; p < s.n; p++) {
                if ((set & 1 << p) != 0) {
                    sum += priced ? s.price[p] : 1;
                }
            }
            if (best != null && sum > best[0] || clashIn(t, set) != -1) {
                continue;
            }
            if (best == null || sum < best[0]) {
                best = new int[] {sum, set, 1};
            } else {
                best[2]++;
            }
        }
        return best;
    }

    int least() {
        return keepBest(best(false));
    }

    int cheapest() {
        return keepBest(best(true));
    }

    int keepBest(int[] best) {
        if (best == null) {
            return -2;
        }
        latest = best[1];
        return best[0];
    }

    int every() {
        int[] best = best(false);
        return best == null ? 0 : best[2];
    }

    int set() {
        return latest;
    }

    List<Integer> shownList() {
        int[][] t = table();
        List<Integer> taken = new ArrayList<>();
        for (int a = 0; a < s.n; a++) {
            for (int b = a + 1; b < s.n; b++) {
                boolean free = !twin(t, a, b);
                for (int pair : taken) {
                    for (int m = 0; m < s.n; m++) {
                        if (t[m][a] != t[m][b] && t[m][pair / 16] != t[m][pair % 16]) {
                            free = false;
                        }
                    }
                }
                if (free) {
                    taken.add(16 * a + b);
                }
            }
        }
        return taken;
    }

    int shown() {
        return shownList().size();
    }

    int pair(int k) {
        return kth(shownList(), k);
    }

    int greedy() {
        int[][] t = table();
        int set = 0;
        while (true) {
            int[] gain = new int[s.n];
            int lacking = 0;
            for (int a = 0; a < s.n; a++) {
                for (int b = a + 1; b < s.n; b++) {
                    if (twin(t, a, b) || parting(t, set, a, b) >= s.need()) {
                        continue;
                    }
                    lacking++;
                    for (int m = 0; m < s.n; m++) {
                        gain[m] += (set & 1 << m) == 0 && t[m][a] != t[m][b] ? 1 : 0;
                    }
                }
            }
            int mark = 0;
            for (int m = s.n - 1; m >= 0; m--) {
                mark = gain[m] >= gain[mark] ? m : mark;
            }
            if (lacking == 0) {
                latest = set;
                return Integer.bitCount(set);
            }
            if (gain[mark] == 0) {
                return -2 - lacking;
            }
            set |= 1 << mark;
        }
    }

    int word(int m, int v) {
        if (!s.is(m) || s.words.containsKey(m)) {
            return -1;
        }
        act();
        s.words.put(m, v);
        return s.words.size();
    }

    int clear() {
        act();
        int were = s.words.size();
        s.words.clear();
        return were;
    }

    int against(int p) {
        if (!s.is(p)) {
            return -1;
        }
        int bits = 0;
        for (Map.Entry<Integer, Integer> e : s.words.entrySet()) {
            bits |= answer(e.getKey(), p) != e.getValue() ? 1 << e.getKey() : 0;
        }
        return bits;
    }

    List<Integer> fitting() {
        List<Integer> all = new ArrayList<>();
        for (int p = 0; p < s.n; p++) {
            if (Integer.bitCount(against(p)) <= (s.lie ? s.f : 0)) {
                all.add(p);
            }
        }
        return all;
    }

    int fits() {
        return fitting().size();
    }

    int where(int k) {
        return kth(fitting(), k);
    }

    static boolean done(int[][] t, int x) {
        for (int a = 0; a < t.length; a++) {
            for (int b = a + 1; b < t.length; b++) {
                if ((x & 1 << a) != 0 && (x & 1 << b) != 0 && !twin(t, a, b)) {
                    return false;
                }
            }
        }
        return true;
    }

    static Map<Integer, Integer> split(int[] answers, int x) {
        Map<Integer, Integer> split = new HashMap<>();
        for (int p = 0; p < answers.length; p++) {
            if ((x & 1 << p) != 0) {
                split.merge(answers[p], 1 << p, (u, v) -> u | v);
            }
        }
        return split;
    }

    /** Of X over all ways of asking: the fewest marks, or the least sum. */
    int ask(int[][] t, int x, boolean mean, Map<Integer, Integer> memo) {
        if (done(t, x)) {
            return 0;
        }
        Integer known = memo.get(x);
        if (known != null) {
            return known;
        }
        int best = Integer.MAX_VALUE;
        for (int m = 0; m < s.n; m++) {
            best = Math.min(best, first(t, m, x, mean, memo));
        }
        memo.put(x, best);
        return best;
    }

    int first(int[][] t, int m, int x, boolean mean, Map<Integer, Integer> memo) {
        Map<Integer, Integer> split = split(t[m], x);
        if (split.size() < 2) {
            return Integer.MAX_VALUE;
        }
        int most = 0;
        int sum = 0;
        for (int stays : split.values()) {
            int cost = ask(t, stays, mean, memo);
            most = Math.max(most, cost);
            sum += cost;
        }
        for (int p = 0; p < s.n; p++) {
            sum += (x & 1 << p) != 0 ? s.chance[p] : 0;
        }
        return mean ? sum : 1 + most;
    }

    boolean askable(int x) {
        return set(x) && Integer.bitCount(x) <= 12;
    }

    int worst(int x) {
        return askable(x) ? ask(table(), x, false, new HashMap<>()) : -1;
    }

    int mean(int x) {
        return askable(x) ? ask(table(), x, true, new HashMap<>()) : -1;
    }

    int next(int x) {
        if (!askable(x)) {
            return -1;
        }
        int[][] t = table();
        Map<Integer, Integer> memo = new HashMap<>();
        int best = ask(t, x, false, memo);
        for (int m = 0; m < s.n && best > 0; m++) {
            if (first(t, m, x, false, memo) == best) {
                return m;
            }
        }
        return -1;
    }

    /** Values go down from 'for ever' until none does any more. */
    int seek(int x) {
        if (!set(x) || s.n > 10) {
            return -1;
        }
        int[][] t = table();
        int never = 1 << 20;
        int[] rounds = new int[1 << s.n];
        for (int set = 0; set < rounds.length; set++) {
            rounds[set] = Integer.bitCount(set) < 2 ? 0 : never;
        }
        List<List<Integer>> splits = new ArrayList<>();
        for (int set = 0; set < rounds.length; set++) {
            for (int m = 0; m < s.n; m++) {
                List<Integer> moved = new ArrayList<>();
                for (int stays : split(t[m], set).values()) {
                    moved.add(Integer.bitCount(stays) < 2 ? 0 : moved(stays));
                }
                splits.add(moved);
            }
        }
        boolean falls = true;
        while (falls) {
            falls = false;
            for (int set = 0; set < rounds.length; set++) {
                for (int m = 0; m < s.n && Integer.bitCount(set) >= 2; m++) {
                    int most = 0;
                    for (int moved : splits.get(set * s.n + m)) {
                        most = Math.max(most, rounds[moved]);
                    }
                    if (most + 1 < rounds[set]) {
                        rounds[set] = most + 1;
                        falls = true;
                    }
                }
            }
        }
        return rounds[x] >= never ? -2 : rounds[x];
    }

    int moved(int x) {
        int all = x;
        for (int p = 0; p < s.n; p++) {
            all |= (x & 1 << p) != 0 ? beside(p) : 0;
        }
        return all;
    }

    int tree() {
        for (int d : waysFrom(0)) {
            if (d == FAR) {
                return -1;
            }
        }
        if (s.roads.size() != s.n - 1) {
            return -1;
        }
        int leaves = 0;
        int knots = 0;
        for (int p = 0; p < s.n; p++) {
            int roads = Integer.bitCount(beside(p));
            leaves += roads == 1 ? 1 : 0;
            knots += roads >= 3 && hasLeg(p) ? 1 : 0;
        }
        if (s.n == 1) {
            return 0;
        }
        return leaves == 2 ? 1 : leaves - knots;
    }

    boolean hasLeg(int knot) {
        for (int leaf = 0; leaf < s.n; leaf++) {
            if (Integer.bitCount(beside(leaf)) == 1) {
                boolean leg = true;
                for (int q = 0; q < s.n; q++) {
                    boolean between = q != knot && q != leaf
                        && waysFrom(knot)[q] + waysFrom(q)[leaf] == waysFrom(knot)[leaf];
                    leg &= !between || Integer.bitCount(beside(q)) == 2;
                }
                if (leg) {
                    return true;
                }
            }
        }
        return false;
    }

    int undo(int n) {
        if (n < 0 || n > log.size()) {
            return -1;
        }
        for (int i = 0; i < n; i++) {
            s = log.remove(log.size() - 1);
        }
        return n;
    }

    int about(int what) {
        int[] all = {s.n, s.roads.size(), s.kind, s.r, s.need(), s.yes ? 1 : 0, s.words.size(),
            log.size(), tape.size()};
        return what >= 0 && what < all.length ? all[what] : -1;
    }
}

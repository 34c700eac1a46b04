import java.util.ArrayDeque;
import java.util.ArrayList;
import java.util.Arrays;
import java.util.Deque;
import java.util.HashMap;
import java.util.List;
import java.util.Map;
import java.util.Set;
import java.util.TreeSet;

/** The document's promises in their plainest form, by sets and by trying all there is. */
final class PlainModel {
    private record Then(List<TreeSet<Integer>> told, int truth) {
    }

    private record Kept(PlainText land, Then then) {
    }

    private final StringBuilder tape = new StringBuilder();
    private PlainText land = new PlainText("");
    private List<TreeSet<Integer>> told = new ArrayList<>();
    private int truth = 0;
    private int fault = 0;
    private int place = -1;
    private final Deque<Then> past = new ArrayDeque<>();
    private final long[][] rows = new long[4][];
    private final int[] sorts = new int[4];
    private final Kept[] images = new Kept[2];

    // ---- small words

    private int worlds() {
        return land.worlds.size();
    }

    private int facts() {
        return land.truths.size();
    }

    private int people() {
        return told.size();
    }

    private boolean noPerson(int p) {
        return p < 0 || p >= people();
    }

    private boolean noFact(int f) {
        return f < 0 || f >= facts();
    }

    private boolean noWorld(int w) {
        return w < 0 || w >= worlds();
    }

    private static boolean noMeasure(int m) {
        return m < 0 || m > 3;
    }

    private static int bits(Set<Integer> set) {
        int b = 0;
        for (int i : set) {
            b |= 1 << i;
        }
        return b;
    }

    private static TreeSet<Integer> setOf(int bits) {
        TreeSet<Integer> set = new TreeSet<>();
        for (int i = 0; i < 32; i++) {
            if ((bits >> i & 1) == 1) {
                set.add(i);
            }
        }
        return set;
    }

    private static List<TreeSet<Integer>> copyOf(List<TreeSet<Integer>> from) {
        List<TreeSet<Integer>> to = new ArrayList<>();
        for (TreeSet<Integer> s : from) {
            to.add(new TreeSet<>(s));
        }
        return to;
    }

    private final Map<Integer, Boolean> held = new HashMap<>();

    private boolean holds(int f, int w) {
        return held.computeIfAbsent(100 * f + w, k -> land.holds(f, w));
    }

    private TreeSet<Integer> possible(Set<Integer> facts, int w) {
        TreeSet<Integer> set = new TreeSet<>();
        for (int v = 0; v < worlds(); v++) {
            boolean as = true;
            for (int f : facts) {
                as &= holds(f, v) == holds(f, w);
            }
            if (as) {
                set.add(v);
            }
        }
        return set;
    }

    private boolean knowsFact(Set<Integer> in, int f) {
        int n = 0;
        for (int w : in) {
            n += holds(f, w) ? 1 : 0;
        }
        return n == 0 || n == in.size();
    }

    private TreeSet<Integer> known(Set<Integer> in) {
        TreeSet<Integer> set = new TreeSet<>();
        for (int f = 0; f < facts(); f++) {
            if (knowsFact(in, f)) {
                set.add(f);
            }
        }
        return set;
    }

    private int guilty(Set<Integer> in) {
        int n = 0;
        for (int w : in) {
            n += land.worlds.get(w).guilty ? 1 : 0;
        }
        return n;
    }

    private boolean knowsGuilt(Set<Integer> in) {
        return guilty(in) == 0 || guilty(in) == in.size();
    }

    private int weight(Set<Integer> in) {
        int n = 0;
        for (int w : in) {
            n += land.worlds.get(w).weight;
        }
        return n;
    }

    private int amount(Set<Integer> in, int m) {
        switch (m) {
            case 0:
                return in.size();
            case 1:
                return Math.min(guilty(in), in.size() - guilty(in));
            case 2:
                return weight(in);
            default:
                return facts() - known(in).size();
        }
    }

    private int leastOf(List<TreeSet<Integer>> all, int w, int m) {
        int best = -1;
        for (int p = 0; p < all.size(); p++) {
            if (best < 0 || amount(possible(all.get(p), w), m) > amount(possible(all.get(best), w), m)) {
                best = p;
            }
        }
        return best;
    }

    private boolean road(int p, int q) {
        return land.roads.contains(10 * Math.min(p, q) + Math.max(p, q));
    }

    private List<TreeSet<Integer>> dayFrom(List<TreeSet<Integer>> all) {
        List<TreeSet<Integer>> next = copyOf(all);
        for (int p = 0; p < all.size(); p++) {
            for (int q = 0; q < all.size(); q++) {
                if (road(p, q)) {
                    next.get(p).addAll(all.get(q));
                }
            }
        }
        return next;
    }

    private boolean askOne(int p, int f) {
        boolean knew = knowsFact(possible(told.get(p), truth), f);
        for (int g = 0; g < facts(); g++) {
            if (land.hints.contains(10 * f + g)) {
                told.get(p).add(g);
            }
        }
        return knew;
    }

    private Then now() {
        return new Then(copyOf(told), truth);
    }

    private void back(Then then) {
        told = copyOf(then.told);
        truth = then.truth;
    }

    private void keep(Then then) {
        past.addLast(then);
        if (past.size() > 12) {
            past.removeFirst();
        }
    }

    // ---- the calls

    int feed(String twenty) {
        if (tape.length() + 20 > 900) {
            return -5;
        }
        tape.append(twenty);
        return tape.length();
    }

    int land(int n) {
        if (n < 0 || n > tape.length()) {
            return -3;
        }
        PlainText read = new PlainText(tape.substring(0, n));
        tape.setLength(0);
        fault = read.fault;
        place = read.place;
        if (fault != 0) {
            return -30 - fault;
        }
        land = read;
        held.clear();
        told = copyOf(read.told);
        truth = read.truth;
        past.clear();
        return read.lines;
    }

    int fault(int what) {
        return what == 0 ? fault : what == 1 ? place : -1;
    }

    int world(int w, int what) {
        if (noWorld(w)) {
            return -2;
        }
        PlainText.World one = land.worlds.get(w);
        switch (what) {
            case 0:
                return one.a;
            case 1:
                return one.b;
            case 2:
                return one.c;
            case 3:
                return one.weight;
            case 4:
                return one.guilty ? 1 : 0;
            case 5:
                int b = 0;
                for (int f = 0; f < facts(); f++) {
                    b += holds(f, w) ? 1 << f : 0;
                }
                return b;
            default:
                return -2;
        }
    }

    int fact(int f) {
        if (noFact(f)) {
            return -2;
        }
        int b = 0;
        for (int w = 0; w < worlds(); w++) {
            b += holds(f, w) ? 1 << w : 0;
        }
        return b;
    }

    int person(int p, int what) {
        if (noPerson(p) || what < 0 || what > 4) {
            return -2;
        }
        TreeSet<Integer> in = possible(told.get(p), truth);
        switch (what) {
            case 0:
                return bits(told.get(p));
            case 1:
                return bits(in);
            case 2:
                return bits(known(in));
            case 3:
                return knowsGuilt(in) ? 1 : 0;
            default:
                int b = 0;
                for (int q = 0; q < people(); q++) {
                    b += road(p, q) ? 1 << q : 0;
                }
                return b;
        }
    }

    int hints(int f) {
        if (noFact(f)) {
            return -2;
        }
        int b = 0;
        for (int g = 0; g < facts(); g++) {
            b += land.hints.contains(10 * f + g) ? 1 << g : 0;
        }
        return b;
    }

    int knows(int p, int f) {
        if (noPerson(p) || noFact(f)) {
            return -2;
        }
        TreeSet<Integer> in = possible(told.get(p), truth);
        boolean all = true;
        boolean none = true;
        for (int w : in) {
            all &= holds(f, w);
            none &= !holds(f, w);
        }
        return all ? 1 : none ? 0 : -1;
    }

    int cell(int p, int w) {
        return noPerson(p) || noWorld(w) ? -2 : bits(possible(told.get(p), w));
    }

    int tell(int p, int f) {
        if (noPerson(p) || noFact(f)) {
            return -2;
        }
        keep(now());
        told.get(p).add(f);
        return possible(told.get(p), truth).size();
    }

    int ask(int p, int f) {
        if (noPerson(p) || noFact(f)) {
            return -2;
        }
        keep(now());
        return askOne(p, f) ? 1 : 0;
    }

    int days(int n) {
        if (n < 1 || n > 60) {
            return -3;
        }
        Then then = now();
        keep(then);
        for (int i = 0; i < n; i++) {
            told = dayFrom(told);
        }
        int more = 0;
        for (int p = 0; p < people(); p++) {
            more += told.get(p).equals(then.told.get(p)) ? 0 : 1;
        }
        return more;
    }

    int isTrue(int w) {
        if (noWorld(w)) {
            return -2;
        }
        keep(now());
        int was = truth;
        truth = w;
        return was;
    }

    int undo(int n) {
        if (n < 1 || n > 12 || n > past.size()) {
            return -3;
        }
        for (int i = 0; i < n; i++) {
            back(past.removeLast());
        }
        return past.size();
    }

    private boolean canBe(long v) {
        if (v == -1) {
            return true;
        }
        for (int p = 0; p < people(); p++) {
            for (int f = 0; f < facts(); f++) {
                if (v == 10 * p + f || v == 100 + 10 * p + f) {
                    return true;
                }
            }
        }
        return false;
    }

    /** How many are done, how often someone knew. */
    private int[] doRow(long[] deeds) {
        int done = 0;
        int knew = 0;
        for (long v : deeds) {
            if (!canBe(v)) {
                break;
            }
            done++;
            if (v == -1) {
                told = dayFrom(told);
            } else if (v < 100) {
                told.get((int) v / 10).add((int) v % 10);
            } else {
                knew += askOne((int) (v - 100) / 10, (int) v % 10) ? 1 : 0;
            }
        }
        return new int[] {done, knew};
    }

    int judge(int row, int what) {
        if (row < 0 || row > 3 || what < 0 || what > 3) {
            return -2;
        }
        if (rows[row] == null) {
            return -6;
        }
        Then then = now();
        int[] did = doRow(rows[row]);
        int least = leastOf(told, truth, 0);
        back(then);
        switch (what) {
            case 0:
                return did[0] == rows[row].length ? -1 : did[0];
            case 1:
                return did[0];
            case 2:
                return least;
            default:
                return did[1];
        }
    }

    int perform(int row) {
        if (row < 0 || row > 3) {
            return -2;
        }
        if (rows[row] == null) {
            return -6;
        }
        Then then = now();
        int done = doRow(rows[row])[0];
        if (done > 0) {
            keep(then);
        }
        return done;
    }

    private int x;

    private int draw() {
        x = 1103515245 * x + 12345;
        return x >>> 16;
    }

    int year(int seed, int times) {
        if (times < 1 || times > 60) {
            return -3;
        }
        if (worlds() == 0 || people() == 0 || facts() == 0) {
            return -5;
        }
        keep(now());
        x = seed;
        for (int i = 0; i < times; i++) {
            switch (draw() % 4) {
                case 0:
                    told = dayFrom(told);
                    break;
                case 1:
                    truth = draw() % worlds();
                    break;
                case 2:
                    int p = draw() % people();
                    askOne(p, draw() % facts());
                    break;
                default:
                    int q = draw() % people();
                    told.get(q).add(draw() % facts());
                    break;
            }
        }
        return leastOf(told, truth, 0);
    }

    private TreeSet<Integer> reached(int n) {
        TreeSet<Integer> at = new TreeSet<>(Set.of(truth));
        for (int i = 0; i < n && people() > 0; i++) {
            TreeSet<Integer> next = new TreeSet<>();
            for (int w : at) {
                for (TreeSet<Integer> t : told) {
                    next.addAll(possible(t, w));
                }
            }
            at = next;
        }
        return at;
    }

    int everyone(int f) {
        return noFact(f) ? -2 : worlds() == 0 ? -5 : knowsFact(reached(1), f) ? 1 : 0;
    }

    int depth(int f) {
        if (noFact(f)) {
            return -2;
        }
        if (worlds() == 0) {
            return -5;
        }
        for (int n = 1; n < 20; n++) {
            if (!knowsFact(reached(n), f)) {
                return n - 1;
            }
        }
        return 100;
    }

    int common() {
        return worlds() == 0 ? -5 : bits(known(reached(20)));
    }

    int reach(int n) {
        return n < 1 || n > 20 ? -3 : worlds() == 0 ? -5 : bits(reached(n));
    }

    private TreeSet<Integer> jointly(int set) {
        TreeSet<Integer> in = new TreeSet<>();
        for (int w = 0; w < worlds(); w++) {
            in.add(w);
        }
        for (int p : setOf(set)) {
            in.retainAll(possible(told.get(p), truth));
        }
        return in;
    }

    int together(int set) {
        if (set < 0 || set >= 1 << people()) {
            return -3;
        }
        return worlds() == 0 ? -5 : bits(jointly(set));
    }

    int witnesses() {
        if (worlds() == 0) {
            return -5;
        }
        for (int n = 0; n <= people(); n++) {
            for (int set = 0; set < 1 << people(); set++) {
                if (Integer.bitCount(set) == n && knowsGuilt(jointly(set))) {
                    return set;
                }
            }
        }
        return -1;
    }

    int parting(int p, int q) {
        if (noPerson(p) || noPerson(q)) {
            return -2;
        }
        int b = 0;
        for (int f = 0; f < facts(); f++) {
            b += knows(p, f) == -1 != (knows(q, f) == -1) ? 1 << f : 0;
        }
        return b;
    }

    int measure(int p, int m) {
        return noPerson(p) || noMeasure(m) ? -2 : amount(possible(told.get(p), truth), m);
    }

    int least(int m) {
        return noMeasure(m) ? -2 : leastOf(told, truth, m);
    }

    int seats(int p, int m) {
        if (noPerson(p) || noMeasure(m)) {
            return -2;
        }
        int n = 0;
        for (int w = 0; w < worlds(); w++) {
            n += leastOf(told, w, m) == p ? 1 : 0;
        }
        return n;
    }

    int differ(int m, int n) {
        if (noMeasure(m) || noMeasure(n)) {
            return -2;
        }
        int pairs = 0;
        for (int p = 0; p < people(); p++) {
            for (int q = 0; q < people(); q++) {
                pairs += measure(p, m) > measure(q, m) && measure(p, n) < measure(q, n) ? 1 : 0;
            }
        }
        // each two came up once by m: the one who has more by it stood first
        return pairs;
    }

    // ---- shown

    /** Least and most worlds one may hold possible, by what it answers. */
    private int[][] ranges(int p) {
        int sets = 1 << facts();
        int[] knows = new int[sets];
        int[] has = new int[sets];
        for (int t = 0; t < sets; t++) {
            TreeSet<Integer> in = possible(setOf(t), truth);
            knows[t] = bits(known(in));
            has[t] = in.size();
        }
        int real = knows[bits(told.get(p))];
        int[][] ranges = new int[sets][];
        for (int asked = 0; asked < sets; asked++) {
            int low = 100;
            int high = 0;
            for (int t = 0; t < sets; t++) {
                if ((knows[t] & asked) == (real & asked)) {
                    low = Math.min(low, has[t]);
                    high = Math.max(high, has[t]);
                }
            }
            ranges[asked] = new int[] {low, high};
        }
        return ranges;
    }

    private int[] bestQuestions;
    private int[] tried;

    private void tryQuestions(int[][][] ranges, int who, int p) {
        if (p == people()) {
            int n = 0;
            for (int q = 0; q < people(); q++) {
                n += Integer.bitCount(tried[q]);
                if (q != who && ranges[q][tried[q]][1] > ranges[who][tried[who]][0]) {
                    return;
                }
            }
            int best = 0;
            for (int q = 0; bestQuestions != null && q < people(); q++) {
                best += Integer.bitCount(bestQuestions[q]);
            }
            // all are tried in their order, so of like ones the first stays
            if (bestQuestions == null || n < best) {
                bestQuestions = tried.clone();
            }
            return;
        }
        for (int set = 0; set < 1 << facts(); set++) {
            tried[p] = set;
            tryQuestions(ranges, who, p + 1);
        }
    }

    /** Too many for all at once: for each set asked of the one, the others have each their own best. */
    private void tryOneByOne(int[][][] ranges, int who) {
        int fewest = 1000;
        for (int set = 0; set < 1 << facts(); set++) {
            int n = 0;
            for (int q = 0; q < people(); q++) {
                tried[q] = q == who ? set : firstBelow(ranges[q], ranges[who][set][0]);
                n += tried[q] < 0 ? 1000 : Integer.bitCount(tried[q]);
            }
            if (n < fewest || n == fewest && n < 1000 && Arrays.compare(tried, bestQuestions) < 0) {
                fewest = n;
                bestQuestions = tried.clone();
            }
        }
    }

    private int firstBelow(int[][] ranges, int most) {
        for (int n = 0; n <= facts(); n++) {
            for (int set = 0; set < ranges.length; set++) {
                if (Integer.bitCount(set) == n && ranges[set][1] <= most) {
                    return set;
                }
            }
        }
        return -1;
    }

    int shown(int p, int what) {
        if (noPerson(p) || what != 0 && (what < 10 || noPerson(what - 10))) {
            return -2;
        }
        if (leastOf(told, truth, 0) != p) {
            return -1;
        }
        int[][][] ranges = new int[people()][][];
        for (int q = 0; q < people(); q++) {
            ranges[q] = ranges(q);
        }
        bestQuestions = null;
        tried = new int[people()];
        if (facts() * people() <= 12) {
            tryQuestions(ranges, p, 0);
        } else {
            tryOneByOne(ranges, p);
        }
        if (bestQuestions == null) {
            return -1;
        }
        if (what >= 10) {
            return bestQuestions[what - 10];
        }
        int n = 0;
        for (int set : bestQuestions) {
            n += Integer.bitCount(set);
        }
        return n;
    }

    int appeals(int p, int m, int what) {
        if (noPerson(p) || noMeasure(m) || what < 0 || what > 1) {
            return -2;
        }
        int n = 0;
        int at = p;
        for (;;) {
            int next = -1;
            for (int more = measure(at, m) + 1; more < 200 && next < 0; more++) {
                for (int q = people() - 1; q >= 0; q--) {
                    next = measure(q, m) == more ? q : next;
                }
            }
            if (next < 0) {
                return what == 0 ? n : at;
            }
            at = next;
            n++;
        }
    }

    // ---- parties, trials

    private List<Integer> choices() {
        List<Integer> list = new ArrayList<>(List.of(-100));
        for (int p = 0; p < people(); p++) {
            for (int f = 0; f < facts(); f++) {
                list.add(10 * p + f);
            }
        }
        return list;
    }

    private int judgeBy(int one, int other, int m) {
        List<TreeSet<Integer>> all = copyOf(told);
        for (int c : new int[] {one, other}) {
            if (c >= 0) {
                all.get(c / 10).add(c % 10);
            }
        }
        return leastOf(all, truth, m);
    }

    int parties(int want, int other, int m, int what) {
        if (noPerson(want) || noPerson(other) || noMeasure(m) || what < 0 || what > 2) {
            return -2;
        }
        if (worlds() == 0) {
            return -5;
        }
        List<Integer> list = choices();
        int n = list.size();
        int[][] judge = new int[n][n];
        for (int i = 0; i < n; i++) {
            for (int j = 0; j < n; j++) {
                judge[i][j] = judgeBy(list.get(i), list.get(j), m);
            }
        }
        for (int i = 0; i < n; i++) {
            for (int j = 0; j < n; j++) {
                boolean rest = true;
                for (int k = 0; k < n; k++) {
                    rest &= !(judge[i][j] != want && judge[k][j] == want);
                    rest &= !(judge[i][j] != other && judge[i][k] == other);
                }
                if (rest) {
                    return what == 0 ? list.get(i) : what == 1 ? list.get(j) : judge[i][j];
                }
            }
        }
        return -1;
    }

    int inform(int want, int m) {
        if (noPerson(want) || noMeasure(m)) {
            return -2;
        }
        if (worlds() == 0) {
            return -5;
        }
        for (int c : choices()) {
            if (judgeBy(c, -100, m) == want) {
                return c;
            }
        }
        return -1;
    }

    /** Whether so many facts do it at worst. */
    private boolean enough(Set<Integer> in, int n, int first, Map<String, Boolean> seen) {
        if (first < 0 && knowsGuilt(in)) {
            return true;
        }
        if (n == 0) {
            return false;
        }
        String key = in + " " + n + " " + first;
        Boolean before = seen.get(key);
        if (before != null) {
            return before;
        }
        boolean can = false;
        for (int f = 0; f < facts() && !can; f++) {
            if (first >= 0 && f != first) {
                continue;
            }
            TreeSet<Integer> yes = new TreeSet<>();
            TreeSet<Integer> no = new TreeSet<>();
            for (int w : in) {
                (holds(f, w) ? yes : no).add(w);
            }
            if (!yes.isEmpty() && !no.isEmpty()) {
                can = enough(yes, n - 1, -1, seen) && enough(no, n - 1, -1, seen);
            }
        }
        seen.put(key, can);
        return can;
    }

    int trial(int p, int what) {
        if (noPerson(p) || what < 0 || what > 1) {
            return -2;
        }
        if (worlds() == 0) {
            return -5;
        }
        TreeSet<Integer> in = possible(told.get(p), truth);
        Map<String, Boolean> seen = new HashMap<>();
        for (int n = 0; n <= facts(); n++) {
            if (!enough(in, n, -1, seen)) {
                continue;
            }
            if (what == 0) {
                return n;
            }
            for (int f = 0; f < facts() && n > 0; f++) {
                if (enough(in, n, f, seen)) {
                    return f;
                }
            }
            return -1;
        }
        return -1;
    }

    int brief(int p) {
        if (noPerson(p)) {
            return -2;
        }
        if (worlds() == 0) {
            return -5;
        }
        for (int n = 0; n <= facts(); n++) {
            for (int set = 0; set < 1 << facts(); set++) {
                TreeSet<Integer> more = setOf(set);
                more.addAll(told.get(p));
                if (Integer.bitCount(set) == n && knowsGuilt(possible(more, truth))) {
                    return set;
                }
            }
        }
        return -1;
    }

    private boolean isRight(int p, int w) {
        int more = 0;
        for (int v : possible(told.get(p), w)) {
            PlainText.World one = land.worlds.get(v);
            more += one.guilty == land.worlds.get(w).guilty ? one.weight : -one.weight;
        }
        return more > 0;
    }

    int right(int p) {
        if (noPerson(p)) {
            return -2;
        }
        int n = 0;
        for (int w = 0; w < worlds(); w++) {
            n += isRight(p, w) ? land.worlds.get(w).weight : 0;
        }
        return n;
    }

    int justice(int m) {
        if (noMeasure(m)) {
            return -2;
        }
        if (people() == 0) {
            return -5;
        }
        int n = 0;
        for (int w = 0; w < worlds(); w++) {
            n += isRight(leastOf(told, w, m), w) ? land.worlds.get(w).weight : 0;
        }
        return n;
    }

    int bestLaw() {
        if (people() == 0) {
            return -5;
        }
        int best = 3;
        for (int m = 2; m >= 0; m--) {
            best = justice(m) >= justice(best) ? m : best;
        }
        return best;
    }

    // ---- news

    int news(int p, int f) {
        if (noPerson(p) || noFact(f)) {
            return -2;
        }
        List<TreeSet<Integer>> all = told;
        for (int d = 0; d < 30; d++) {
            if (all.get(p).contains(f)) {
                return d;
            }
            all = dayFrom(all);
        }
        return -1;
    }

    int latest(int f) {
        if (noFact(f)) {
            return -2;
        }
        int best = -1;
        int most = -1;
        for (int p = 0; p < people(); p++) {
            int d = news(p, f) < 0 ? 1000 : news(p, f);
            if (d > most) {
                most = d;
                best = p;
            }
        }
        return best;
    }

    int leastIn(int m, int n) {
        if (noMeasure(m)) {
            return -2;
        }
        if (n < 0 || n > 60) {
            return -3;
        }
        List<TreeSet<Integer>> all = told;
        for (int d = 0; d < n; d++) {
            all = dayFrom(all);
        }
        return leastOf(all, truth, m);
    }

    int calm() {
        List<TreeSet<Integer>> all = told;
        int d = 0;
        while (!dayFrom(all).equals(all)) {
            all = dayFrom(all);
            d++;
        }
        return d;
    }

    // ---- who asked

    private int askedCode(int row) {
        if (row < 0 || row > 3) {
            return -2;
        }
        if (rows[row] == null) {
            return -6;
        }
        if (rows[row].length < 1 || rows[row].length > 8) {
            return -4;
        }
        for (long v : rows[row]) {
            if (v < 0 || v >= facts()) {
                return -3;
            }
        }
        return worlds() == 0 ? -5 : 0;
    }

    private boolean fits(int set, long[] asked) {
        TreeSet<Integer> t = setOf(set);
        for (long v : asked) {
            if (knowsFact(possible(t, truth), (int) v)) {
                return false;
            }
            t.add((int) v);
        }
        return true;
    }

    int fitting(int row) {
        int code = askedCode(row);
        if (code != 0) {
            return code;
        }
        int n = 0;
        for (int set = 0; set < 1 << facts(); set++) {
            n += fits(set, rows[row]) ? 1 : 0;
        }
        return n;
    }

    int sure(int row) {
        int code = askedCode(row);
        if (code != 0) {
            return code;
        }
        if (fitting(row) == 0) {
            return -1;
        }
        int b = 0;
        for (int f = 0; f < facts(); f++) {
            boolean in = false;
            for (int set = 0; set < 1 << facts(); set++) {
                in |= (set >> f & 1) == 1 && fits(set, rows[row]);
            }
            b += in ? 0 : 1 << f;
        }
        return b;
    }

    int questions(int p, int n) {
        if (noPerson(p)) {
            return -2;
        }
        if (n < 1 || n > 4) {
            return -3;
        }
        if (worlds() == 0) {
            return -5;
        }
        int ways = 0;
        int all = (int) Math.pow(facts(), n);
        for (int k = 0; k < all; k++) {
            long[] asked = new long[n];
            int rest = k;
            for (int i = 0; i < n; i++) {
                asked[i] = rest % facts();
                rest /= facts();
            }
            ways += fits(bits(told.get(p)), asked) ? 1 : 0;
        }
        return ways;
    }

    // ---- rows of numbers, images

    int numbers(int row, int sort, int n) {
        if (row < 0 || row > 3 || sort < 0 || sort > 3) {
            return -2;
        }
        if (n < 0 || n > 40) {
            return -3;
        }
        rows[row] = new long[n];
        sorts[row] = sort;
        return 0;
    }

    private static long cut(int sort, long v) {
        int left = 64 - (8 << sort);
        return v << left >> left;
    }

    long write(int row, int i, long v) {
        if (row < 0 || row > 3) {
            return -2;
        }
        if (rows[row] == null) {
            return -6;
        }
        if (i < 0 || i >= rows[row].length) {
            return -7;
        }
        rows[row][i] = cut(sorts[row], v);
        return rows[row][i];
    }

    int copy(int row) {
        if (row < 0 || row > 3) {
            return -2;
        }
        if (rows[row] == null) {
            return -6;
        }
        int n = 0;
        for (int p = 0; p < people() && p < rows[row].length; p++) {
            rows[row][p] = cut(sorts[row], bits(told.get(p)));
            n++;
        }
        return n;
    }

    int image(int i) {
        if (i < 0 || i > 1) {
            return -2;
        }
        images[i] = new Kept(land, now());
        return 0;
    }

    int restore(int i) {
        if (i < 0 || i > 1) {
            return -2;
        }
        if (images[i] == null) {
            return -5;
        }
        land = images[i].land;
        held.clear();
        back(images[i].then);
        past.clear();
        return 0;
    }

    int count(int what) {
        switch (what) {
            case 0:
                return worlds();
            case 1:
                return facts();
            case 2:
                return people();
            case 3:
                return worlds() == 0 ? -1 : truth;
            case 4:
                return past.size();
            case 5:
                return land.roads.size();
            case 6:
                return guilty(jointly(0));
            case 7:
                return weight(jointly(0));
            case 8:
                return tape.length();
            case 9:
                return land.lines;
            default:
                return -1;
        }
    }
}

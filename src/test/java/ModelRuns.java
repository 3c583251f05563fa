import java.math.BigInteger;
import java.util.ArrayDeque;
import java.util.ArrayList;
import java.util.Deque;
import java.util.HashMap;
import java.util.HashSet;
import java.util.LinkedHashMap;
import java.util.List;
import java.util.Map;
import java.util.Random;
import java.util.Set;
import java.util.TreeSet;

/**
 * Random runs of calls, each answer held against a second program that is written from the
 * document's words as plainly as can be, with the Java library, and shares no code with the first.
 */
public final class ModelRuns {
    static final int UNKNOWN = -1, OUTSIDE = -2, STATE = -3, FULL = -4, NONE = -9;
    static final int MOST_CALLS = 512;

    static final class M {
        int states = 1;
        TreeSet<String> edges = new TreeSet<>();
        TreeSet<Integer> ends = new TreeSet<>();

        M copy() {
            M m = new M();
            m.states = states;
            m.edges.addAll(edges);
            m.ends.addAll(ends);
            return m;
        }

        TreeSet<Integer> step(Set<Integer> set, char letter) {
            TreeSet<Integer> next = new TreeSet<>();
            for (int s : set) {
                for (int t = 0; t < states; t++) {
                    if (edges.contains("" + s + letter + t)) {
                        next.add(t);
                    }
                }
            }
            return next;
        }

        TreeSet<Integer> walk(int from, String word) {
            TreeSet<Integer> set = new TreeSet<>(Set.of(from));
            for (char c : word.toCharArray()) {
                set = step(set, c);
            }
            return set;
        }

        boolean takesFrom(int from, String word) {
            return walk(from, word).stream().anyMatch(ends::contains);
        }

        boolean takes(String word) {
            return takesFrom(0, word);
        }

        void turn(String edge) {
            if (!edges.remove(edge)) {
                edges.add(edge);
            }
        }

        void turnEnd(int s) {
            if (!ends.remove(s)) {
                ends.add(s);
            }
        }
    }

    static int bits(Set<Integer> set) {
        int b = 0;
        for (int s : set) {
            b += 1 << s;
        }
        return b;
    }

    record Pair(int p, TreeSet<Integer> s, String word) { }

    static final class Model {
        M[] m = {new M(), new M()};
        StringBuilder text = new StringBuilder();
        List<M[]> before = new ArrayList<>();
        M[][] slots = new M[2][];
        List<String> seenWords = new ArrayList<>();
        List<Integer> seenWas = new ArrayList<>();
        long seed = 0;

        static M[] copy(M[] both) {
            return new M[] {both[0].copy(), both[1].copy()};
        }

        int edges() {
            return m[0].edges.size() + m[1].edges.size();
        }

        // ---- the text

        /** The whole text as machines, or null: no thought of what may come behind. */
        static M[] parse(String t) {
            if (!t.matches("W[1-4][1-5]([pq][0-9][ab][0-9]|[PQ][0-9])*")) {
                return null;
            }
            M[] both = {new M(), new M()};
            both[0].states = t.charAt(1) - '0';
            both[1].states = t.charAt(2) - '0';
            for (int i = 3; i < t.length();) {
                char sign = t.charAt(i);
                M of = Character.toLowerCase(sign) == 'p' ? both[0] : both[1];
                int from = t.charAt(i + 1) - '0';
                if (from >= of.states) {
                    return null;
                }
                if (Character.isUpperCase(sign)) {
                    if (!of.ends.add(from)) {
                        return null;
                    }
                    i += 2;
                } else {
                    if (t.charAt(i + 3) - '0' >= of.states || !of.edges.add(t.substring(i + 1, i + 4))) {
                        return null;
                    }
                    i += 4;
                }
            }
            return both;
        }

        static final String SIGNS = "01234abpqPQW56789";
        static final Map<String, Boolean> CAN = new HashMap<>();

        static boolean canBecome(String start, int more) {
            if (parse(start) != null) {
                return true;
            }
            if (more == 0) {
                return false;
            }
            for (char c : SIGNS.toCharArray()) {
                if (canBecome(start + c, more - 1)) {
                    return true;
                }
            }
            return false;
        }

        int fault() {
            String t = text.toString();
            for (int i = 0; i < t.length(); i++) {
                // three letters behind the last one are enough to end any part
                if (!CAN.computeIfAbsent(t.substring(0, i + 1), s -> canBecome(s, 3))) {
                    return i;
                }
            }
            return parse(t) != null ? NONE : t.length();
        }

        int machines() {
            if (fault() != NONE) {
                return STATE;
            }
            m = parse(text.toString());
            before.clear();
            slots = new M[2][];
            return edges();
        }

        // ---- numbers

        boolean machine(int i) {
            return i == 0 || i == 1;
        }

        boolean state(int i, int s) {
            return machine(i) && s >= 0 && s < m[i].states;
        }

        boolean edgeArgs(int i, int from, int by, int to) {
            return state(i, from) && (by == 1 || by == 2) && state(i, to);
        }

        static String edgeName(int from, int by, int to) {
            return "" + from + (by == 1 ? 'a' : 'b') + to;
        }

        /** A word in letters, or null. */
        static String word(int figures) {
            String t = figures == 0 ? "" : Integer.toString(figures);
            return t.matches("[12]{0,9}") ? t.replace('1', 'a').replace('2', 'b') : null;
        }

        void act() {
            before.add(copy(m));
            if (before.size() > 14) {
                before.remove(0);
            }
        }

        int undo() {
            if (before.isEmpty()) {
                return STATE;
            }
            m = before.remove(before.size() - 1);
            return before.size();
        }

        // ---- words

        static List<String> words(int n) {
            List<String> out = new ArrayList<>(List.of(""));
            for (int i = 0; i < n; i++) {
                List<String> next = new ArrayList<>();
                for (String w : out) {
                    next.add(w + "a");
                    next.add(w + "b");
                }
                out = next;
            }
            return out;
        }

        int many(int n, int what) {
            if (n < 0 || n > 9 || what < 0 || what > 3) {
                return OUTSIDE;
            }
            int sum = 0;
            for (String w : words(n)) {
                boolean a = m[0].takes(w);
                boolean b = m[1].takes(w);
                boolean is = what == 0 ? a : what == 1 ? b : what == 2 ? a && b : a && !b;
                sum += is ? 1 : 0;
            }
            return sum;
        }

        /** The least word by which the first (null: one that takes all) has it and the second not. */
        static String least(M taker, M other) {
            Map<String, String> level = new LinkedHashMap<>();
            Set<String> known = new HashSet<>();
            level.put("", "");
            while (!level.isEmpty()) {
                Map<String, String> next = new LinkedHashMap<>();
                for (String w : level.keySet()) {
                    if ((taker == null || taker.takes(w)) && !other.takes(w)) {
                        return w;
                    }
                }
                for (String w : level.keySet()) {
                    for (String c : List.of("a", "b")) {
                        String key = (taker == null ? "" : taker.walk(0, w + c)) + "/" + other.walk(0, w + c);
                        if (known.add(key)) {
                            next.put(w + c, "");
                        }
                    }
                }
                level = next;
            }
            return null;
        }

        static boolean isWithin(M[] both) {
            return least(both[0], both[1]) == null;
        }

        static int tell(String word, int k) {
            if (word == null) {
                return NONE;
            }
            if (k == 0) {
                return word.length();
            }
            return k > word.length() ? NONE : word.charAt(k - 1) - 'a' + 1;
        }

        static boolean place(int k) {
            return k >= 0 && k <= 200;
        }

        // ---- what follows what

        /** What can be told of states in 100 steps; 81 pairs can not be refuted later than that. */
        static boolean[][][][] follows(M[] both) {
            boolean[][][][] is = new boolean[2][5][2][5];
            for (int step = 0; step < 100; step++) {
                boolean[][][][] next = new boolean[2][5][2][5];
                for (int i = 0; i < 2; i++) {
                    for (int x = 0; x < both[i].states; x++) {
                        for (int j = 0; j < 2; j++) {
                            for (int y = 0; y < both[j].states; y++) {
                                next[i][x][j][y] = oneStep(both, step == 0 ? null : is, new int[] {i, x, j, y});
                            }
                        }
                    }
                }
                is = next;
            }
            return is;
        }

        static boolean oneStep(M[] both, boolean[][][][] is, int[] at) {
            M a = both[at[0]];
            M b = both[at[2]];
            if (a.ends.contains(at[1]) && !b.ends.contains(at[3])) {
                return false;
            }
            if (is == null) {
                return true;
            }
            for (char c : "ab".toCharArray()) {
                for (int x : a.step(Set.of(at[1]), c)) {
                    boolean some = false;
                    for (int y : b.step(Set.of(at[3]), c)) {
                        some |= is[at[0]][x][at[2]][y];
                    }
                    if (!some) {
                        return false;
                    }
                }
            }
            return true;
        }

        // ---- the search

        final class Looked {
            int mode;
            boolean[][][][] f = follows(m);
            List<Pair> kept = new ArrayList<>();
            Deque<Pair> row = new ArrayDeque<>();
            int taken;
            int passed;
            int gone;
            Pair bad;

            Looked(int mode) {
                this.mode = mode;
                come(new Pair(0, new TreeSet<>(Set.of(0)), ""));
                while (bad == null && !row.isEmpty()) {
                    take(row.removeFirst());
                }
            }

            void take(Pair one) {
                taken++;
                for (char c : "ab".toCharArray()) {
                    for (int p : m[0].step(Set.of(one.p), c)) {
                        if (bad == null) {
                            come(new Pair(p, m[1].step(one.s, c), one.word + c));
                        }
                    }
                }
            }

            void come(Pair one) {
                if (mode == 2 && one.s.stream().anyMatch(y -> f[0][one.p][1][y])
                        || kept.stream().anyMatch(k -> covered(one, k))) {
                    passed++;
                    return;
                }
                for (Pair k : new ArrayList<>(kept)) {
                    if (covered(k, one)) {
                        kept.removeIf(other -> other == k);
                        row.removeIf(other -> other == k);
                        gone++;
                    }
                }
                kept.add(one);
                row.addLast(one);
                if (m[0].ends.contains(one.p) && one.s.stream().noneMatch(m[1].ends::contains)) {
                    bad = one;
                }
            }

            boolean covered(Pair one, Pair by) {
                if (mode == 0) {
                    return one.p == by.p && one.s.equals(by.s);
                }
                if (mode == 1) {
                    return one.p == by.p && one.s.containsAll(by.s);
                }
                return f[0][one.p][0][by.p]
                    && by.s.stream().allMatch(t -> one.s.stream().anyMatch(s -> f[1][t][1][s]));
            }
        }

        int search(int mode, int what) {
            if (mode < 0 || mode > 2 || what < 0 || what > 4) {
                return OUTSIDE;
            }
            Looked l = new Looked(mode);
            return new int[] {l.bad == null ? 1 : 0, l.taken, l.kept.size(), l.passed, l.gone}[what];
        }

        int kept(int mode, int pair) {
            if (mode < 0 || mode > 2) {
                return OUTSIDE;
            }
            Looked l = new Looked(mode);
            if (pair < 0 || pair >= l.kept.size()) {
                return UNKNOWN;
            }
            return 100 * l.kept.get(pair).p + bits(l.kept.get(pair).s);
        }

        int found(int mode, int k) {
            if (mode < 0 || mode > 2 || !place(k)) {
                return OUTSIDE;
            }
            Looked l = new Looked(mode);
            return tell(l.bad == null ? null : l.bad.word, k);
        }

        int mended(int machine, int what) {
            if (!machine(machine)) {
                return UNKNOWN;
            }
            if (what != 0 && what != 1) {
                return OUTSIDE;
            }
            TreeSet<Integer> numbers = new TreeSet<>();
            for (int number = 0; !isWithin(m) && number < 1000; number++) {
                int from = number / 100;
                int by = number / 10 % 10;
                int to = number % 10;
                if (edgeArgs(machine, from, by, to)) {
                    M[] other = copy(m);
                    String name = edgeName(from, by, to);
                    boolean changed = machine == 0 ? other[0].edges.remove(name) : other[1].edges.add(name);
                    if (changed && isWithin(other)) {
                        numbers.add(number);
                    }
                }
            }
            return what == 0 ? numbers.size() : numbers.isEmpty() ? NONE : numbers.first();
        }

        int judge(int n, long row) {
            if (n < 1 || n > 3 || row < 0 || Long.toString(row).length() > 5 * n) {
                return OUTSIDE;
            }
            String figures = String.format("%0" + 5 * n + "d", row);
            M[] was = m;
            m = copy(m);
            int answer = NONE;
            for (int i = 0; i < n && answer == NONE; i++) {
                answer = does(figures.substring(5 * i, 5 * i + 5)) ? NONE : i;
            }
            m = was;
            return answer;
        }

        boolean does(String d) {
            int[] f = d.chars().map(c -> c - '0').toArray();
            if (d.matches("1[01]...") && edgeArgs(f[1], f[2], f[3], f[4])) {
                m[f[1]].turn(edgeName(f[2], f[3], f[4]));
                return true;
            }
            if (d.matches("2[01].00") && state(f[1], f[2])) {
                m[f[1]].turnEnd(f[2]);
                return true;
            }
            if (d.matches("3[01]0*[12]*")) {
                return m[f[1]].takes(d.substring(2).replace("0", "").replace('1', 'a').replace('2', 'b'));
            }
            if (d.matches("4000[01]")) {
                return isWithin(m) == (f[4] == 1);
            }
            if (d.matches("5..0[01]") && state(0, f[1]) && state(1, f[2])) {
                return follows(m)[0][f[1]][1][f[2]] == (f[4] == 1);
            }
            return false;
        }

        // ---- seen

        int see(int word, int was) {
            if (word(word) == null || was != 0 && was != 1) {
                return OUTSIDE;
            }
            if (seenWords.size() == 6) {
                return FULL;
            }
            seenWords.add(word(word));
            seenWas.add(was);
            return seenWords.size();
        }

        int which() {
            int sum = 0;
            for (int i = 0; i < 2; i++) {
                for (int s = 0; s < m[i].states; s++) {
                    boolean fits = true;
                    for (int k = 0; k < seenWords.size(); k++) {
                        fits &= m[i].takesFrom(s, seenWords.get(k)) == (seenWas.get(k) == 1);
                    }
                    sum += fits ? (i == 0 ? 1 : 16) << s : 0;
                }
            }
            return sum;
        }

        // ---- shares, chances

        static int fraction(BigInteger above, BigInteger below, boolean upper) {
            BigInteger g = above.gcd(below);
            return (upper ? above : below).divide(g).intValueExact();
        }

        int share(int state, boolean upper) {
            if (!state(1, state)) {
                return UNKNOWN;
            }
            if (!m[1].ends.contains(state)) {
                return STATE;
            }
            List<Set<Integer>> reached = new ArrayList<>();
            for (int n = 0; n <= 6; n++) {
                for (String w : words(n)) {
                    if (m[0].takes(w)) {
                        reached.add(m[1].walk(0, w));
                    }
                }
            }
            int[] sums = new int[2];
            orders(new ArrayList<>(), new ArrayList<>(m[1].ends), state, reached, sums);
            return fraction(BigInteger.valueOf(sums[0]), BigInteger.valueOf(sums[1]), upper);
        }

        static void orders(List<Integer> come, List<Integer> left, int state, List<Set<Integer>> reached, int[] sums) {
            if (left.isEmpty()) {
                List<Integer> ahead = come.subList(0, come.indexOf(state));
                List<Integer> then = come.subList(0, come.indexOf(state) + 1);
                sums[0] += taken(reached, then) - taken(reached, ahead);
                sums[1]++;
            }
            for (int e : left) {
                List<Integer> c = new ArrayList<>(come);
                List<Integer> l = new ArrayList<>(left);
                c.add(e);
                l.remove((Integer) e);
                orders(c, l, state, reached, sums);
            }
        }

        static int taken(List<Set<Integer>> reached, List<Integer> ends) {
            return (int) reached.stream().filter(r -> r.stream().anyMatch(ends::contains)).count();
        }

        int lost(int x, boolean upper) {
            if (x < 0 || x > 10) {
                return OUTSIDE;
            }
            BigInteger[] sum = {BigInteger.ZERO};
            stays(copy(m), new ArrayList<>(m[1].ends), x, BigInteger.ONE, sum);
            return fraction(sum[0], BigInteger.TEN.pow(m[1].ends.size()), upper);
        }

        static void stays(M[] both, List<Integer> open, int x, BigInteger chance, BigInteger[] sum) {
            if (open.isEmpty()) {
                sum[0] = isWithin(both) ? sum[0].add(chance) : sum[0];
                return;
            }
            List<Integer> rest = open.subList(1, open.size());
            stays(both, rest, x, chance.multiply(BigInteger.valueOf(10 - x)), sum);
            both[1].ends.remove(open.get(0));
            stays(both, rest, x, chance.multiply(BigInteger.valueOf(x)), sum);
            both[1].ends.add(open.get(0));
        }

        int drawn(int times) {
            if (times < 1 || times > 20) {
                return OUTSIDE;
            }
            int sum = 0;
            BigInteger wrap = BigInteger.ONE.shiftLeft(64);
            for (int i = 0; i < times; i++) {
                BigInteger x = BigInteger.valueOf(seed).multiply(new BigInteger("6364136223846793005"))
                    .add(new BigInteger("1442695040888963407")).mod(wrap);
                seed = x.longValue();
                int v = x.shiftRight(33).intValueExact();
                StringBuilder w = new StringBuilder();
                for (int k = 0; k < v % 10; k++) {
                    w.append((v / 16 >> k) % 2 == 0 ? 'a' : 'b');
                }
                sum += (m[0].takes(w.toString()) ? 1 : 0) + (m[1].takes(w.toString()) ? 2 : 0);
            }
            return sum;
        }

        int count(int what) {
            int[] all = {text.length(), m[0].states, m[1].states, m[0].edges.size(), m[1].edges.size(),
                bits(m[0].ends), bits(m[1].ends), before.size(), seenWords.size()};
            return what < 0 || what > 8 ? OUTSIDE : all[what];
        }
    }

    // ---- the runs

    static int wrong = 0;

    final Random random;
    final WordsWithin x = new WordsWithin();
    final Model model = new Model();
    final List<String> story = new ArrayList<>();

    ModelRuns(long seed) {
        random = new Random(seed);
    }

    void same(String call, long got, long due) {
        story.add(call + " = " + got);
        if (got != due) {
            wrong++;
            System.out.println(call + " answered " + got + ", due is " + due + "; the calls: " + story);
        }
    }

    int any(int n) {
        return random.nextInt(n);
    }

    /** Mostly 0 to n - 1, now and then a number outside of it. */
    int near(int n) {
        int[] odd = {-1, n, Integer.MIN_VALUE, Integer.MAX_VALUE, n + 1, -9};
        return any(12) == 0 ? odd[any(odd.length)] : any(n);
    }

    int nearLetter() {
        return any(15) == 0 ? near(2) * 3 : 1 + any(2);
    }

    int nearMachine() {
        return any(25) == 0 ? near(2) : any(2);
    }

    int nearState(int machine) {
        int states = machine == 0 || machine == 1 ? model.m[machine].states : 3;
        return any(25) == 0 ? near(states) : any(states);
    }

    int nearWord() {
        int[] odd = {-1, 3, 10, 120, 1020, 1111111111, 2111111111, 211111111, 222222222, 333333333,
            Integer.MIN_VALUE, Integer.MAX_VALUE, 100000000, 1234, -12};
        if (any(12) == 0) {
            return odd[any(odd.length)];
        }
        int w = 0;
        for (int n = any(any(3) == 0 ? 10 : 5); n > 0; n--) {
            w = w * 10 + 1 + any(2);
        }
        return w;
    }

    long nearRow(int n) {
        long row = 0;
        for (int i = 0; i < n; i++) {
            row = row * 100000 + nearDoing();
        }
        return any(20) == 0 ? random.nextLong() >> any(64) : row;
    }

    int nearDoing() {
        int i = any(2);
        int s = nearState(i);
        int t = nearState(i);
        s = Math.floorMod(s, 10);
        t = Math.floorMod(t, 10);
        switch (any(7)) {
            case 0:
                return 10000 + i * 1000 + s * 100 + (1 + any(2)) * 10 + t;
            case 1:
                return 20000 + i * 1000 + s * 100 + (any(15) == 0 ? any(100) : 0);
            case 2:
            case 3:
                int[] w = {0, 1, 2, 11, 12, 21, 22, 111, 112, 121, 122, 211, 212, 221, 222, 10, 100, 102, 3, 20, 120};
                return 30000 + i * 1000 + w[any(w.length)];
            case 4:
                return 40000 + any(2) + (any(15) == 0 ? 10 * any(1000) : 0);
            case 5:
                return 50000 + Math.floorMod(nearState(0), 10) * 1000 + Math.floorMod(nearState(1), 10) * 100 + any(2)
                    + (any(15) == 0 ? any(100) : 0);
            default:
                return any(3) == 0 ? any(100000) : 40000 + any(2);
        }
    }

    String randomText() {
        int zero = 1 + any(4);
        int one = 1 + any(5);
        StringBuilder t = new StringBuilder("W").append(zero).append(one);
        int parts = any(26);
        int less = any(4);
        for (int i = 0; i < parts && t.length() < 76; i++) {
            char sign = "pppqqqqPQ".charAt(any(9));
            int states = sign == 'p' || sign == 'P' ? zero : one;
            String part = "" + sign + any(states);
            if (sign == 'p' || sign == 'q') {
                part += "" + "ab".charAt(any(2)) + any(states);
            }
            boolean told = false;
            for (int at = 3; at < t.length(); at += Character.isUpperCase(t.charAt(at)) ? 2 : 4) {
                told |= t.substring(at).startsWith(part);
            }
            if (!told || less == 0) {
                t.append(part);
            }
            if (less == 0 && any(20) == 0) {
                return t.substring(0, any(t.length())) + (char) any(256);
            }
        }
        return any(6) == 0 ? t.substring(0, any(t.length() + 1)) : t.toString();
    }

    void writeText() {
        same("wipe()", x.wipe(), wiped());
        for (char c : randomText().toCharArray()) {
            write(c);
        }
        same("fault()", x.fault(), model.fault());
        same("machines()", x.machines(), model.machines());
    }

    /** An object is used for 512 calls at most: a text is not begun late in a run. */
    void writeTextIfRoom() {
        if (story.size() < MOST_CALLS - 90) {
            writeText();
        }
    }

    int wiped() {
        int was = model.text.length();
        model.text.setLength(0);
        return was;
    }

    void write(int c) {
        int due = c < 0 || c > 255 ? OUTSIDE : model.text.length() == 80 ? FULL : 0;
        if (due == 0) {
            model.text.append((char) c);
            due = model.text.length();
        }
        same("write(" + c + ")", x.write(c), due);
    }

    void turn() {
        int i = nearMachine();
        int from = nearState(i);
        int by = nearLetter();
        int to = nearState(i);
        boolean is = model.edgeArgs(i, from, by, to);
        String args = "(" + i + ", " + from + ", " + by + ", " + to + ")";
        String name = Model.edgeName(from, by, to);
        if (any(5) == 0) {
            same("edge" + args, x.edge(i, from, by, to), is ? model.m[i].edges.contains(name) ? 1 : 0 : UNKNOWN);
            return;
        }
        int due = UNKNOWN;
        if (is) {
            model.act();
            model.m[i].turn(name);
            due = model.m[i].edges.contains(name) ? 1 : 0;
        }
        same("turn" + args, x.turn(i, from, by, to), due);
    }

    void end() {
        int i = nearMachine();
        int s = nearState(i);
        int due = UNKNOWN;
        if (model.state(i, s)) {
            model.act();
            model.m[i].turnEnd(s);
            due = model.m[i].ends.contains(s) ? 1 : 0;
        }
        same("end(" + i + ", " + s + ")", x.end(i, s), due);
    }

    void words() {
        int i = nearMachine();
        int w = nearWord();
        String word = Model.word(w);
        int refused = !model.machine(i) ? UNKNOWN : word == null ? OUTSIDE : 0;
        same("takes(" + i + ", " + w + ")", x.takes(i, w), refused != 0 ? refused : model.m[i].takes(word) ? 1 : 0);
        same("after(" + i + ", " + w + ")", x.after(i, w), refused != 0 ? refused : bits(model.m[i].walk(0, word)));
    }

    int nearPlace(int length) {
        int[] odd = {0, -1, 201, 200, Integer.MAX_VALUE, Integer.MIN_VALUE};
        return any(4) == 0 ? odd[any(odd.length)] : any(length + 2);
    }

    void missing() {
        String word = Model.least(model.m[0], model.m[1]);
        int k = nearPlace(word == null ? 2 : word.length());
        same("missing(" + k + ")", x.missing(k), Model.place(k) ? Model.tell(word, k) : OUTSIDE);
        same("within()", x.within(), word == null ? 1 : 0);
        int i = nearMachine();
        String out = model.machine(i) ? Model.least(null, model.m[i]) : null;
        k = nearPlace(out == null ? 2 : out.length());
        int due = !model.machine(i) ? UNKNOWN : !Model.place(k) ? OUTSIDE : Model.tell(out, k);
        same("leftOut(" + i + ", " + k + ")", x.leftOut(i, k), due);
    }

    void follows() {
        int i = nearMachine();
        int j = nearMachine();
        int s = nearState(i);
        int t = nearState(j);
        int due = model.state(i, s) && model.state(j, t) ? Model.follows(model.m)[i][s][j][t] ? 1 : 0 : UNKNOWN;
        same("follows(" + i + ", " + s + ", " + j + ", " + t + ")", x.follows(i, s, j, t), due);
    }

    void search() {
        int mode = any(20) == 0 ? near(3) : any(3);
        int what = any(20) == 0 ? near(5) : any(5);
        same("search(" + mode + ", " + what + ")", x.search(mode, what), model.search(mode, what));
        int pair = near(6);
        same("kept(" + mode + ", " + pair + ")", x.kept(mode, pair), model.kept(mode, pair));
        int k = nearPlace(3);
        same("found(" + mode + ", " + k + ")", x.found(mode, k), model.found(mode, k));
    }

    void seen() {
        if (any(12) == 0) {
            same("unsee()", x.unsee(), model.seenWords.size());
            model.seenWords.clear();
            model.seenWas.clear();
        }
        int w = nearWord();
        int was = any(20) == 0 ? near(2) : any(2);
        same("see(" + w + ", " + was + ")", x.see(w, was), model.see(w, was));
        same("which()", x.which(), model.which());
    }

    void shares() {
        int s = nearState(1);
        boolean upper = any(2) == 0;
        same("share(" + s + ", " + upper + ")", x.share(s, upper), model.share(s, upper));
        int tenths = near(11);
        upper = any(2) == 0;
        same("lost(" + tenths + ", " + upper + ")", x.lost(tenths, upper), model.lost(tenths, upper));
    }

    void draw() {
        if (any(3) == 0) {
            long v = any(4) == 0 ? any(100) : random.nextLong();
            same("seed(" + v + ")", x.seed(v), model.seed);
            model.seed = v;
        }
        int m = near(21);
        same("drawn(" + m + ")", x.drawn(m), model.drawn(m));
    }

    void slots() {
        int slot = any(5) == 0 ? near(2) : any(2);
        boolean is = slot == 0 || slot == 1;
        if (any(2) == 0) {
            if (is) {
                model.slots[slot] = Model.copy(model.m);
            }
            same("keep(" + slot + ")", x.keep(slot), is ? model.edges() : UNKNOWN);
            return;
        }
        int due = !is ? UNKNOWN : STATE;
        if (is && model.slots[slot] != null) {
            model.m = Model.copy(model.slots[slot]);
            model.before.clear();
            due = model.edges();
        }
        same("again(" + slot + ")", x.again(slot), due);
    }

    void count() {
        for (int what = -1; what < 10; what++) {
            same("count(" + what + ")", x.count(what), model.count(what));
        }
    }

    void dear() {
        switch (any(4)) {
            case 0:
                int i = nearMachine();
                int what = any(10) == 0 ? near(2) : any(2);
                same("mended(" + i + ", " + what + ")", x.mended(i, what), model.mended(i, what));
                break;
            case 1:
                int n = any(12) == 0 ? near(4) : 1 + any(3);
                long row = nearRow(Math.max(1, Math.min(n, 3)));
                same("judge(" + n + ", " + row + ")", x.judge(n, row), model.judge(n, row));
                break;
            case 2:
                int length = near(10);
                int whose = any(20) == 0 ? near(4) : any(4);
                same("many(" + length + ", " + whose + ")", x.many(length, whose), model.many(length, whose));
                break;
            default:
                shares();
        }
    }

    void some() {
        switch (any(15)) {
            case 0: case 1: case 2: turn(); break;
            case 3: end(); break;
            case 4: words(); break;
            case 5: missing(); break;
            case 6: follows(); break;
            case 7: case 8: search(); break;
            case 9: seen(); break;
            case 10: draw(); break;
            case 11: slots(); break;
            case 12: case 13: dear(); break;
            default:
                switch (any(8)) {
                    case 0: count(); break;
                    case 1: writeTextIfRoom(); break;
                    case 2: write(near(256)); break;
                    default: same("undo()", x.undo(), model.undo());
                }
        }
    }

    void run() {
        if (any(5) != 0) {
            writeText();
        }
        while (story.size() < MOST_CALLS - 12 && wrong == 0) {
            some();
        }
    }

    /**
     * Machines of 4 and 5 states by which much is long or many: a word that is missing has 24
     * letters, one that is left out 14, 128 PAIRS are KEPT by PLAIN, 94 are GONE by LEAST, 87 by
     * WIDE, 37 are KEPT by WIDE. All edges (from, by, to), then ends, of each machine, as bits.
     */
    static final String[] DEEP = {
        "1010000010110101010110001000000101001100001000001000000100111100000000001000100110001010011",
        "0010100010011000100010110000001101001110001111000100000101000001100000100000001000001111111",
        "1100000011010110110100100000100100001000000010000000010011111100000011000001000110100011001",
        "0000101000100001100011100111001100000011010100011000000100101010000000010000001000001010001",
        "0000110110001011110101111111110000000000111111000011001001000000000010011000000101010001111",
        "1010010001000011110100011101100100100110000110000010010001000011010001000101100001000011011",
        "0100110101000111001001001111001110110111010100111001110100101001101010000111010010111110000",
    };

    void makeDeep(String bits) {
        for (char c : "W45".toCharArray()) {
            write(c);
        }
        same("machines()", x.machines(), model.machines());
        int at = 0;
        for (int i = 0; i < 2; i++) {
            int n = model.m[i].states;
            for (int edge = 0; edge < n * 2 * n; edge++) {
                if (bits.charAt(at++) == '1') {
                    int from = edge / n / 2;
                    int by = edge / n % 2 + 1;
                    model.act();
                    model.m[i].turn(Model.edgeName(from, by, edge % n));
                    same("turn", x.turn(i, from, by, edge % n), 1);
                }
            }
            for (int s = 0; s < n; s++) {
                if (bits.charAt(at++) == '1') {
                    model.act();
                    model.m[i].turnEnd(s);
                    same("end", x.end(i, s), 1);
                }
            }
        }
        count();
    }

    void askDeep() {
        for (int mode = 2; mode >= 0; mode--) {
            for (int k = 0; k < 5; k++) {
                same("found(" + mode + ", " + k + ")", x.found(mode, k), model.found(mode, k));
                same("search(" + mode + ", " + k + ")", x.search(mode, k), model.search(mode, k));
            }
            for (int pair = 0; pair <= model.search(mode, 2); pair++) {
                same("kept(" + mode + ", " + pair + ")", x.kept(mode, pair), model.kept(mode, pair));
            }
        }
        String missing = Model.least(model.m[0], model.m[1]);
        for (int k = 0; k <= 40; k++) {
            same("missing(" + k + ")", x.missing(k), Model.tell(missing, k));
        }
        for (int i = 0; i < 2; i++) {
            String out = Model.least(null, model.m[i]);
            for (int k = 0; k <= 20; k++) {
                same("leftOut(" + i + ", " + k + ")", x.leftOut(i, k), Model.tell(out, k));
            }
            same("mended(" + i + ", 0)", x.mended(i, 0), model.mended(i, 0));
            same("mended(" + i + ", 1)", x.mended(i, 1), model.mended(i, 1));
        }
        for (int s = 0; s < 5; s++) {
            same("share(" + s + ", true)", x.share(s, true), model.share(s, true));
            same("share(" + s + ", false)", x.share(s, false), model.share(s, false));
        }
        for (int tenths = 0; tenths <= 10; tenths++) {
            same("lost(" + tenths + ", true)", x.lost(tenths, true), model.lost(tenths, true));
            same("lost(" + tenths + ", false)", x.lost(tenths, false), model.lost(tenths, false));
        }
    }

    static void deep() {
        for (String bits : DEEP) {
            ModelRuns run = new ModelRuns(0);
            run.makeDeep(bits);
            run.askDeep();
        }
    }

    public static void main(String[] args) {
        deep();
        int runs = args.length > 0 ? Integer.parseInt(args[0]) : 60;
        long first = args.length > 1 ? Long.parseLong(args[1]) : 1;
        for (long seed = first; seed < first + runs && wrong == 0; seed++) {
            new ModelRuns(seed).run();
        }
        System.out.println(wrong == 0 ? runs + " runs are as the model's" : "the runs differ from the model's");
        if (wrong != 0) {
            System.exit(1);
        }
    }
}

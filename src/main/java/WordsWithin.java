import java.util.Arrays;

/** Whether each word of one machine is a word of another one; ../shared/DOC.md has the promises. */
public final class WordsWithin {
    public static final int UNKNOWN = -1, OUTSIDE = -2, STATE = -3, FULL = -4, NONE = -9;

    private static final int MOST_ZERO = 4;
    private static final int MOST_ONE = 5;
    private static final int LETTERS = 2;
    private static final int MOST_TEXT = 80;
    private static final int MOST_ACTS = 14;
    private static final int MOST_SEEN = 6;
    private static final int MOST_DOINGS = 3;
    private static final int MOST_DRAWS = 20;
    private static final int MOST_PLACE = 200;
    private static final int LONGEST_WORD = 9;
    private static final int SHARE_LETTERS = 6;
    private static final int SLOT_COUNT = 2;
    private static final int ZERO_SETS = 16;
    private static final int ONE_SETS = 32;
    private static final int PAIR_COUNT = MOST_ZERO * ONE_SETS;
    private static final int PLAIN = 0, LEAST = 1, WIDE = 2;

    /** The set that holds STATE 0 alone. */
    private static final int START_SET = 1;

    /** What 1 to 5, the counts of ENDS that share a WORD, all divide. */
    private static final int SHARE_WHOLE = 60;

    private static final int[] TENS = {
        1, 10, 100, 1000, 10000, 100000, 1000000, 10000000, 100000000
    };

    /** What rows of 0, 1, 2, 3 doings stay below. */
    private static final long[] DOINGS = {1L, 100000L, 10000000000L, 1000000000000000L};

    private final Script text;
    private final Both now;
    private final Both trial;
    private final Acts acts;
    private final Both[] slots;
    private final boolean[] filled;
    private final int[] seenWords;
    private final int[] seenWas;
    private int seenMany;
    private long theSeed;
    private final Machine everything;
    private final Spelling spelling;
    private final Gap gap;
    private final Inclusion inclusion;
    private final Likeness likeness;
    private final Hunt hunt;
    private final Tree tree;

    public WordsWithin() {
        text = new Script();
        now = new Both();
        trial = new Both();
        acts = new Acts();
        slots = new Both[SLOT_COUNT];
        for (int slot = 0; slot < SLOT_COUNT; slot++) {
            slots[slot] = new Both();
        }
        filled = new boolean[SLOT_COUNT];
        seenWords = new int[MOST_SEEN];
        seenWas = new int[MOST_SEEN];
        everything = new Machine();
        everything.flipEdge(0, 1, 0);
        everything.flipEdge(0, 2, 0);
        everything.flipEnd(0);
        spelling = new Spelling();
        gap = new Gap();
        inclusion = new Inclusion();
        likeness = new Likeness();
        hunt = new Hunt();
        tree = new Tree();
    }

    // ---- the machines

    public int write(int letter) {
        if (letter < 0 || letter > 255) {
            return OUTSIDE;
        }
        if (text.length >= MOST_TEXT) {
            return FULL;
        }
        text.append(letter);
        return text.length;
    }

    public int wipe() {
        int was = text.length;
        text.length = 0;
        return was;
    }

    public int fault() {
        return text.read(trial);
    }

    public int machines() {
        if (text.read(trial) != NONE) {
            return STATE;
        }
        now.copyFrom(trial);
        acts.length = 0;
        for (int slot = 0; slot < SLOT_COUNT; slot++) {
            filled[slot] = false;
        }
        return now.edges();
    }

    public int edge(int machine, int from, int by, int to) {
        if (!isEdgeOf(now, machine, from, by, to)) {
            return UNKNOWN;
        }
        return bit(now.of(machine).joins(from, by, to));
    }

    // ---- acts

    public int turn(int machine, int from, int by, int to) {
        if (!isEdgeOf(now, machine, from, by, to)) {
            return UNKNOWN;
        }
        acts.append(Acts.edgeAct(machine, from, by, to));
        now.of(machine).flipEdge(from, by, to);
        return bit(now.of(machine).joins(from, by, to));
    }

    public int end(int machine, int state) {
        if (!isStateOf(now, machine, state)) {
            return UNKNOWN;
        }
        acts.append(Acts.endAct(machine, state));
        now.of(machine).flipEnd(state);
        return bit(now.of(machine).isEnd(state));
    }

    public int undo() {
        if (acts.length == 0) {
            return STATE;
        }
        acts.takeBack(now);
        return acts.length;
    }

    // ---- words

    public int takes(int machine, int word) {
        if (!isMachine(machine)) {
            return UNKNOWN;
        }
        if (!isWord(word)) {
            return OUTSIDE;
        }
        return bit(now.of(machine).accepts(START_SET, word));
    }

    public int after(int machine, int word) {
        if (!isMachine(machine)) {
            return UNKNOWN;
        }
        if (!isWord(word)) {
            return OUTSIDE;
        }
        return now.of(machine).walk(START_SET, word);
    }

    public int many(int n, int what) {
        if (n < 0 || n > LONGEST_WORD || what < 0 || what > 3) {
            return OUTSIDE;
        }
        tree.grow(now, n);
        int sum = 0;
        for (int node = 1 << n; node < 2 << n; node++) {
            boolean zero = now.zero.hasEndIn(tree.zeroSet(node));
            boolean one = now.one.hasEndIn(tree.oneSet(node));
            sum += bit(isMeant(what, zero, one));
        }
        return sum;
    }

    public int within() {
        return bit(inclusion.holds(now));
    }

    public int missing(int k) {
        if (!isPlace(k)) {
            return OUTSIDE;
        }
        gap.spell(now.zero, now.one, spelling);
        return spelling.tell(k);
    }

    public int leftOut(int machine, int k) {
        if (!isMachine(machine)) {
            return UNKNOWN;
        }
        if (!isPlace(k)) {
            return OUTSIDE;
        }
        gap.spell(everything, now.of(machine), spelling);
        return spelling.tell(k);
    }

    // ---- what follows what

    public int follows(int machine, int state, int other, int its) {
        if (!isStateOf(now, machine, state) || !isStateOf(now, other, its)) {
            return UNKNOWN;
        }
        likeness.work(now);
        return bit(likeness.holds(machine, state, other, 1 << its));
    }

    public int search(int mode, int what) {
        if (!isMode(mode) || what < 0 || what > 4) {
            return OUTSIDE;
        }
        hunt.run(now, mode);
        switch (what) {
            case 0:
                return bit(hunt.bad < 0);
            case 1:
                return hunt.taken;
            case 2:
                return hunt.length - hunt.dropped;
            case 3:
                return hunt.passed;
            default:
                return hunt.dropped;
        }
    }

    public int kept(int mode, int pair) {
        if (!isMode(mode)) {
            return OUTSIDE;
        }
        hunt.run(now, mode);
        return hunt.tellPair(pair);
    }

    public int found(int mode, int k) {
        if (!isMode(mode) || !isPlace(k)) {
            return OUTSIDE;
        }
        hunt.run(now, mode);
        hunt.spell(spelling);
        return spelling.tell(k);
    }

    public int mended(int machine, int what) {
        if (!isMachine(machine)) {
            return UNKNOWN;
        }
        if (what < 0 || what > 1) {
            return OUTSIDE;
        }
        if (inclusion.holds(now)) {
            return what == 0 ? 0 : NONE;
        }
        trial.copyFrom(now);
        int states = now.of(machine).states;
        int sum = 0;
        int first = NONE;
        for (int from = 0; from < states; from++) {
            for (int by = 1; by <= LETTERS; by++) {
                for (int to = 0; to < states; to++) {
                    if (mends(machine, from, by, to)) {
                        first = sum == 0 ? 100 * from + 10 * by + to : first;
                        sum++;
                    }
                }
            }
        }
        return what == 0 ? sum : first;
    }

    public int judge(int n, long row) {
        if (n < 1 || n > MOST_DOINGS || row < 0 || row >= DOINGS[n]) {
            return OUTSIDE;
        }
        trial.copyFrom(now);
        for (int place = 0; place < n; place++) {
            int doing = (int) (row / DOINGS[n - 1 - place] % DOINGS[1]);
            if (!canBe(doing)) {
                return place;
            }
        }
        return NONE;
    }

    // ---- seen

    public int see(int word, int was) {
        if (!isWord(word) || was < 0 || was > 1) {
            return OUTSIDE;
        }
        if (seenMany >= MOST_SEEN) {
            return FULL;
        }
        seenWords[seenMany] = word;
        seenWas[seenMany] = was;
        seenMany++;
        return seenMany;
    }

    public int unsee() {
        int was = seenMany;
        seenMany = 0;
        return was;
    }

    public int which() {
        return statesAsSeen(now.zero) + ZERO_SETS * statesAsSeen(now.one);
    }

    // ---- shares, chances

    public int share(int state, boolean upper) {
        if (!now.one.knows(state)) {
            return UNKNOWN;
        }
        if (!now.one.isEnd(state)) {
            return STATE;
        }
        tree.grow(now, SHARE_LETTERS);
        int sum = 0;
        for (int node = 1; node < 2 << SHARE_LETTERS; node++) {
            if (now.zero.hasEndIn(tree.zeroSet(node))) {
                sum += shareOfWord(state, tree.oneSet(node) & now.one.ends);
            }
        }
        return inLeastTerms(sum, SHARE_WHOLE, upper);
    }

    public int lost(int x, boolean upper) {
        if (x < 0 || x > 10) {
            return OUTSIDE;
        }
        inclusion.meetAll(now);
        int ends = now.one.ends;
        int whole = 1;
        for (int state = 0; state < MOST_ONE; state++) {
            whole *= now.one.isEnd(state) ? 10 : 1;
        }
        int sum = 0;
        for (int stay = 0; stay < ONE_SETS; stay++) {
            if ((stay & ends) == stay && inclusion.holdsBy(now, stay)) {
                sum += chance(stay, x);
            }
        }
        return inLeastTerms(sum, whole, upper);
    }

    public long seed(long v) {
        long was = theSeed;
        theSeed = v;
        return was;
    }

    public int drawn(int m) {
        if (m < 1 || m > MOST_DRAWS) {
            return OUTSIDE;
        }
        int sum = 0;
        for (int time = 0; time < m; time++) {
            theSeed = theSeed * 6364136223846793005L + 1442695040888963407L;
            sum += drawnOnce((int) (theSeed >>> 33));
        }
        return sum;
    }

    // ---- slots

    public int keep(int slot) {
        if (!isSlot(slot)) {
            return UNKNOWN;
        }
        slots[slot].copyFrom(now);
        filled[slot] = true;
        return now.edges();
    }

    public int again(int slot) {
        if (!isSlot(slot)) {
            return UNKNOWN;
        }
        if (!filled[slot]) {
            return STATE;
        }
        now.copyFrom(slots[slot]);
        acts.length = 0;
        return now.edges();
    }

    public int count(int what) {
        switch (what) {
            case 0:
                return text.length;
            case 1:
                return now.zero.states;
            case 2:
                return now.one.states;
            case 3:
                return now.zero.edgeTotal();
            case 4:
                return now.one.edgeTotal();
            case 5:
                return now.zero.ends;
            case 6:
                return now.one.ends;
            case 7:
                return acts.length;
            case 8:
                return seenMany;
            default:
                return OUTSIDE;
        }
    }

    // ---- what numbers are as told

    private static boolean isMachine(int machine) {
        return machine == 0 || machine == 1;
    }

    private static boolean isLetter(int by) {
        return by == 1 || by == 2;
    }

    private static boolean isMode(int mode) {
        return mode >= PLAIN && mode <= WIDE;
    }

    private static boolean isPlace(int k) {
        return k >= 0 && k <= MOST_PLACE;
    }

    private static boolean isSlot(int slot) {
        return slot >= 0 && slot < SLOT_COUNT;
    }

    private static boolean isStateOf(Both both, int machine, int state) {
        return isMachine(machine) && both.of(machine).knows(state);
    }

    private static boolean isEdgeOf(Both both, int machine, int from, int by, int to) {
        return isStateOf(both, machine, from) && isLetter(by) && isStateOf(both, machine, to);
    }

    private static boolean isWord(int word) {
        if (word < 0) {
            return false;
        }
        int rest = word;
        for (int at = 0; at < LONGEST_WORD && rest != 0; at++) {
            if (!isLetter(rest % 10)) {
                return false;
            }
            rest /= 10;
        }
        return rest == 0;
    }

    // ---- parts of calls

    private static int bit(boolean is) {
        return is ? 1 : 0;
    }

    private static boolean isMeant(int what, boolean zero, boolean one) {
        switch (what) {
            case 0:
                return zero;
            case 1:
                return one;
            case 2:
                return zero && one;
            default:
                return zero && !one;
        }
    }

    /** Whether this EDGE less of MACHINE 0, or more of MACHINE 1, makes trial WITHIN. */
    private boolean mends(int machine, int from, int by, int to) {
        Machine changed = trial.of(machine);
        boolean less = machine == 0;
        if (changed.joins(from, by, to) != less) {
            return false;
        }
        changed.flipEdge(from, by, to);
        boolean is = inclusion.holds(trial);
        changed.flipEdge(from, by, to);
        return is;
    }

    /** Does the doing of five figures with trial: whether it can be, and is so. */
    private boolean canBe(int doing) {
        int first = doing / 1000 % 10;
        int second = doing / 100 % 10;
        int third = doing / 10 % 10;
        int last = doing % 10;
        switch (doing / 10000) {
            case 1:
                return turnsEdge(first, second, third, last);
            case 2:
                return third == 0 && last == 0 && turnsEnd(first, second);
            case 3:
                return isMachine(first) && isWord(doing % 1000)
                    && trial.of(first).accepts(START_SET, doing % 1000);
            case 4:
                return first == 0 && second == 0 && third == 0 && last <= 1
                    && inclusion.holds(trial) == (last == 1);
            case 5:
                return third == 0 && last <= 1
                    && isStateOf(trial, 0, first) && isStateOf(trial, 1, second)
                    && followsInTrial(first, second) == (last == 1);
            default:
                return false;
        }
    }

    private boolean turnsEdge(int machine, int from, int by, int to) {
        if (!isEdgeOf(trial, machine, from, by, to)) {
            return false;
        }
        trial.of(machine).flipEdge(from, by, to);
        return true;
    }

    private boolean turnsEnd(int machine, int state) {
        if (!isStateOf(trial, machine, state)) {
            return false;
        }
        trial.of(machine).flipEnd(state);
        return true;
    }

    private boolean followsInTrial(int state, int its) {
        likeness.work(trial);
        return likeness.holds(0, state, 1, 1 << its);
    }

    private int statesAsSeen(Machine machine) {
        int states = 0;
        for (int state = 0; state < machine.states; state++) {
            states |= isAsSeen(machine, state) ? 1 << state : 0;
        }
        return states;
    }

    private boolean isAsSeen(Machine machine, int state) {
        for (int at = 0; at < seenMany && at < MOST_SEEN; at++) {
            if (bit(machine.accepts(1 << state, seenWords[at])) != seenWas[at]) {
                return false;
            }
        }
        return true;
    }

    /**
     * Of SHARE_WHOLE what a WORD that leads to these ENDS gives to one of them: the WORD comes
     * with the first of them that comes, and each is the first one as likely.
     */
    private static int shareOfWord(int state, int ends) {
        int among = Integer.bitCount(ends);
        if (among == 0 || (ends >> state & 1) == 0) {
            return 0;
        }
        return SHARE_WHOLE / among;
    }

    /** How likely just these ENDS of MACHINE 1 stay, in tenths multiplied with one another. */
    private int chance(int stay, int x) {
        int product = 1;
        for (int state = 0; state < MOST_ONE; state++) {
            if (now.one.isEnd(state)) {
                product *= (stay >> state & 1) != 0 ? 10 - x : x;
            }
        }
        return product;
    }

    private static int inLeastTerms(int above, int below, boolean upper) {
        int great = below;
        int small = above;
        for (int step = 0; step < 100 && small != 0; step++) {
            int rest = great % small;
            great = small;
            small = rest;
        }
        if (great == 0) {
            return 0;
        }
        return upper ? above / great : below / great;
    }

    private int drawnOnce(int v) {
        int letters = v % 10;
        int zero = START_SET;
        int one = START_SET;
        int rest = v / 16;
        for (int at = 0; at < letters; at++) {
            int by = rest % 2 + 1;
            zero = now.zero.step(zero, by);
            one = now.one.step(one, by);
            rest /= 2;
        }
        return bit(now.zero.hasEndIn(zero)) + 2 * bit(now.one.hasEndIn(one));
    }

    /** STATES, EDGES, ENDS; sets of STATES are bits. */
    static final class Machine {
        int states;
        int ends;
        private final int[] leads;

        Machine() {
            leads = new int[MOST_ONE * LETTERS];
            states = 1;
        }

        void reset(int howMany) {
            states = howMany;
            ends = 0;
            Arrays.fill(leads, 0);
        }

        void copyFrom(Machine other) {
            states = other.states;
            ends = other.ends;
            System.arraycopy(other.leads, 0, leads, 0, MOST_ONE * LETTERS);
        }

        boolean knows(int state) {
            return state >= 0 && state < states;
        }

        boolean isEnd(int state) {
            return knows(state) && (ends >> state & 1) != 0;
        }

        boolean hasEndIn(int set) {
            return (set & ends) != 0;
        }

        int allStates() {
            return (1 << states) - 1;
        }

        /** Where the EDGES of a STATE by a letter lead to. */
        int targets(int from, int by) {
            int at = from * LETTERS + by - 1;
            return at >= 0 && at < leads.length ? leads[at] : 0;
        }

        boolean joins(int from, int by, int to) {
            return (targets(from, by) >> to & 1) != 0;
        }

        void flipEdge(int from, int by, int to) {
            int at = from * LETTERS + by - 1;
            if (at >= 0 && at < leads.length) {
                leads[at] ^= 1 << to;
            }
        }

        void flipEnd(int state) {
            ends ^= 1 << state;
        }

        int edgesFrom(int from) {
            return Integer.bitCount(targets(from, 1)) + Integer.bitCount(targets(from, 2));
        }

        int edgeTotal() {
            int sum = 0;
            for (int from = 0; from < states; from++) {
                sum += edgesFrom(from);
            }
            return sum;
        }

        int step(int set, int by) {
            int reached = 0;
            for (int state = 0; state < states; state++) {
                if ((set >> state & 1) != 0) {
                    reached |= targets(state, by);
                }
            }
            return reached;
        }

        /** Where a WORD leads to; the figures ahead of its first letter are 0 and no steps. */
        int walk(int set, int word) {
            int reached = set;
            for (int at = TENS.length - 1; at >= 0; at--) {
                int by = word / TENS[at] % 10;
                if (isLetter(by)) {
                    reached = step(reached, by);
                }
            }
            return reached;
        }

        boolean accepts(int set, int word) {
            return hasEndIn(walk(set, word));
        }
    }

    /** MACHINE 0 and MACHINE 1. */
    static final class Both {
        final Machine zero;
        final Machine one;

        Both() {
            zero = new Machine();
            one = new Machine();
        }

        Machine of(int machine) {
            return machine == 0 ? zero : one;
        }

        void copyFrom(Both other) {
            zero.copyFrom(other.zero);
            one.copyFrom(other.one);
        }

        int edges() {
            return zero.edgeTotal() + one.edgeTotal();
        }
    }

    /** THE TEXT, and how it is read. */
    static final class Script {
        int length;
        private final int[] letters;

        Script() {
            letters = new int[MOST_TEXT];
        }

        void append(int letter) {
            if (length < MOST_TEXT) {
                letters[length] = letter;
                length++;
            }
        }

        private int letterAt(int place) {
            return place >= 0 && place < length && place < MOST_TEXT ? letters[place] : NONE;
        }

        private int figureAt(int place) {
            int letter = letterAt(place);
            return letter >= '0' && letter <= '9' ? letter - '0' : NONE;
        }

        /** Reads MACHINES: the FAULT, and only without one are they whole. */
        int read(Both into) {
            if (letterAt(0) != 'W') {
                return 0;
            }
            int zero = figureAt(1);
            if (zero < 1 || zero > MOST_ZERO) {
                return 1;
            }
            int one = figureAt(2);
            if (one < 1 || one > MOST_ONE) {
                return 2;
            }
            into.zero.reset(zero);
            into.one.reset(one);
            int at = 3;
            while (at < length) {
                int sign = letterAt(at);
                boolean isEdge = sign == 'p' || sign == 'q';
                Machine machine = sign == 'p' || sign == 'P' ? into.zero : into.one;
                int place = isEdge ? readEdge(machine, at) : readEnd(machine, at);
                if (place != NONE) {
                    return place;
                }
                at += isEdge ? 4 : 2;
            }
            return NONE;
        }

        /*
         * A place behind the last letter holds no letter that could be right, so it is told as
         * the FAULT: it is the length then.
         */

        private int readEdge(Machine machine, int at) {
            int states = machine.states;
            if (machine.edgeTotal() == states * LETTERS * states) {
                return at;
            }
            int from = figureAt(at + 1);
            if (!machine.knows(from) || machine.edgesFrom(from) == LETTERS * states) {
                return at + 1;
            }
            int by = letterAt(at + 2) - 'a' + 1;
            if (!isLetter(by) || machine.targets(from, by) == machine.allStates()) {
                return at + 2;
            }
            int to = figureAt(at + 3);
            if (!machine.knows(to) || machine.joins(from, by, to)) {
                return at + 3;
            }
            machine.flipEdge(from, by, to);
            return NONE;
        }

        private int readEnd(Machine machine, int at) {
            int sign = letterAt(at);
            if (sign != 'P' && sign != 'Q' || machine.ends == machine.allStates()) {
                return at;
            }
            int state = figureAt(at + 1);
            if (!machine.knows(state) || machine.isEnd(state)) {
                return at + 1;
            }
            machine.flipEnd(state);
            return NONE;
        }
    }

    /** THE ROW of ACTS, each as the figures machine, from, by, to; by 0 is an END. */
    static final class Acts {
        int length;
        private final int[] row;

        Acts() {
            row = new int[MOST_ACTS];
        }

        static int edgeAct(int machine, int from, int by, int to) {
            return machine * 1000 + from * 100 + by * 10 + to;
        }

        static int endAct(int machine, int state) {
            return edgeAct(machine, state, 0, 0);
        }

        void append(int act) {
            if (length >= MOST_ACTS) {
                System.arraycopy(row, 1, row, 0, MOST_ACTS - 1);
                length = MOST_ACTS - 1;
            }
            row[length] = act;
            length++;
        }

        void takeBack(Both both) {
            if (length < 1 || length > MOST_ACTS) {
                return;
            }
            length--;
            int act = row[length];
            Machine machine = both.of(act / 1000);
            int from = act / 100 % 10;
            int by = act / 10 % 10;
            if (by == 0) {
                machine.flipEnd(from);
            } else {
                machine.flipEdge(from, by, act % 10);
            }
        }
    }

    /**
     * A WORD that was found, collected from its last letter to its first one; or none. A way to
     * a PAIR that meets none twice has fewer than PAIR_COUNT letters, so all are told.
     */
    static final class Spelling {
        private boolean there;
        private int length;
        private final int[] letters;

        Spelling() {
            letters = new int[MOST_PLACE];
        }

        void clear(boolean isThere) {
            there = isThere;
            length = 0;
        }

        void prepend(int by) {
            if (length < letters.length) {
                letters[length] = by;
                length++;
            }
        }

        int tell(int k) {
            if (!there || k < 0 || k > length) {
                return NONE;
            }
            return k == 0 ? length : letters[length - k];
        }
    }

    /**
     * The least WORD that one MACHINE takes and another one does not. Sets of both are met in
     * the order of the least WORDS that lead to them, so the first that is a gap is the least.
     */
    static final class Gap {
        private static final int UNMET = -1;
        private static final int FIRST = -2;

        /** Of each pair of sets the one ahead of it, times 2, and the letter less 1. */
        private final int[] cameBy;
        private final int[] row;
        private int length;

        Gap() {
            cameBy = new int[ZERO_SETS * ONE_SETS];
            row = new int[ZERO_SETS * ONE_SETS];
        }

        void spell(Machine taker, Machine other, Spelling word) {
            Arrays.fill(cameBy, UNMET);
            length = 0;
            meet(START_SET, START_SET, FIRST);
            for (int at = 0; at < length && at < row.length; at++) {
                int code = row[at];
                int its = code % ZERO_SETS;
                int others = code / ZERO_SETS;
                if (taker.hasEndIn(its) && !other.hasEndIn(others)) {
                    spellBack(code, word);
                    return;
                }
                for (int by = 1; by <= LETTERS; by++) {
                    meet(taker.step(its, by), other.step(others, by), code * LETTERS + by - 1);
                }
            }
            word.clear(false);
        }

        /** From no STATES of the taker no WORD goes on that it takes. */
        private void meet(int its, int others, int by) {
            int code = its + ZERO_SETS * others;
            if (its == 0 || code < 0 || code >= cameBy.length || cameBy[code] != UNMET) {
                return;
            }
            cameBy[code] = by;
            if (length < row.length) {
                row[length] = code;
                length++;
            }
        }

        private void spellBack(int last, Spelling word) {
            word.clear(true);
            int code = last;
            for (int at = 0; at < cameBy.length; at++) {
                if (code < 0 || code >= cameBy.length || cameBy[code] < 0) {
                    return;
                }
                word.prepend(cameBy[code] % LETTERS + 1);
                code = cameBy[code] / LETTERS;
            }
        }
    }

    /** All pairs of a STATE of MACHINE 0 and a set of MACHINE 1 to which one WORD leads. */
    static final class Inclusion {
        /** Of each STATE of MACHINE 0 the sets that it was met with, as bits. */
        private final int[] met;
        private final int[] row;
        private int length;

        Inclusion() {
            met = new int[MOST_ZERO];
            row = new int[PAIR_COUNT];
        }

        boolean holds(Both both) {
            start();
            for (int at = 0; at < length && at < PAIR_COUNT; at++) {
                if (isBad(both, row[at], both.one.ends)) {
                    return false;
                }
                goOn(both, row[at]);
            }
            return true;
        }

        void meetAll(Both both) {
            start();
            for (int at = 0; at < length && at < PAIR_COUNT; at++) {
                goOn(both, row[at]);
            }
        }

        /** Behind meetAll: whether it would be WITHIN with these ENDS of MACHINE 1. */
        boolean holdsBy(Both both, int ends) {
            for (int at = 0; at < length && at < PAIR_COUNT; at++) {
                if (isBad(both, row[at], ends)) {
                    return false;
                }
            }
            return true;
        }

        private void start() {
            Arrays.fill(met, 0);
            length = 0;
            meet(0, START_SET);
        }

        private static boolean isBad(Both both, int pair, int ends) {
            return both.zero.isEnd(pair / ONE_SETS) && (pair % ONE_SETS & ends) == 0;
        }

        private void goOn(Both both, int pair) {
            for (int by = 1; by <= LETTERS; by++) {
                int targets = both.zero.targets(pair / ONE_SETS, by);
                if (targets != 0) {
                    int set = both.one.step(pair % ONE_SETS, by);
                    for (int state = 0; state < MOST_ZERO; state++) {
                        if ((targets >> state & 1) != 0) {
                            meet(state, set);
                        }
                    }
                }
            }
        }

        private void meet(int state, int set) {
            if (state < 0 || state >= MOST_ZERO || (met[state] >> set & 1) != 0) {
                return;
            }
            met[state] |= 1 << set;
            if (length < PAIR_COUNT) {
                row[length] = state * ONE_SETS + set;
                length++;
            }
        }
    }

    /** FOLLOWS: all that may be is told first, and what is refuted is taken away until none is. */
    static final class Likeness {
        private static final int ALL = MOST_ZERO + MOST_ONE;

        /** Of each STATE, those of MACHINE 1 behind those of MACHINE 0: the ones it FOLLOWS. */
        private final int[] followed;
        /** Where the EDGES of each lead to, by a, then by b. */
        private final int[] leads;

        Likeness() {
            followed = new int[ALL];
            leads = new int[ALL * LETTERS];
        }

        void work(Both both) {
            for (int x = 0; x < ALL; x++) {
                followed[x] = byEnds(both, x);
                leads[x * LETTERS] = leadsTo(both, x, 1);
                leads[x * LETTERS + 1] = leadsTo(both, x, 2);
            }
            boolean changed = true;
            // each round but the last one takes one of ALL * ALL away at least
            for (int round = 0; round <= ALL * ALL && changed; round++) {
                changed = false;
                for (int x = 0; x < ALL; x++) {
                    int left = notRefuted(x);
                    changed = changed || left != followed[x];
                    followed[x] = left;
                }
            }
        }

        /** Whether a STATE FOLLOWS one of a set of a MACHINE. */
        boolean holds(int machine, int state, int other, int set) {
            int x = machine == 0 ? state : state + MOST_ZERO;
            int ys = other == 0 ? set : set << MOST_ZERO;
            return x >= 0 && x < ALL && (followed[x] & ys) != 0;
        }

        /** Whether each STATE of a set of MACHINE 1 FOLLOWS one of another set of it. */
        boolean holdsForEach(int set, int others) {
            for (int state = 0; state < MOST_ONE; state++) {
                boolean isIn = (set >> state & 1) != 0;
                if (isIn && (followed[state + MOST_ZERO] & others << MOST_ZERO) == 0) {
                    return false;
                }
            }
            return true;
        }

        private static int byEnds(Both both, int x) {
            int known = both.zero.allStates() | both.one.allStates() << MOST_ZERO;
            int ends = both.zero.ends | both.one.ends << MOST_ZERO;
            if ((known >> x & 1) == 0) {
                return 0;
            }
            return (ends >> x & 1) != 0 ? ends : known;
        }

        private int notRefuted(int x) {
            int left = followed[x];
            for (int y = 0; y < ALL; y++) {
                if ((left >> y & 1) != 0 && isRefuted(x, y)) {
                    left &= ~(1 << y);
                }
            }
            return left;
        }

        private boolean isRefuted(int x, int y) {
            for (int letter = 0; letter < LETTERS; letter++) {
                int xs = leads[x * LETTERS + letter];
                int ys = leads[y * LETTERS + letter];
                for (int to = 0; to < ALL; to++) {
                    if ((xs >> to & 1) != 0 && (followed[to] & ys) == 0) {
                        return true;
                    }
                }
            }
            return false;
        }

        private static int leadsTo(Both both, int x, int by) {
            return x < MOST_ZERO
                ? both.zero.targets(x, by)
                : both.one.targets(x - MOST_ZERO, by) << MOST_ZERO;
        }
    }

    /**
     * A SEARCH. All PAIRS that were ever KEPT stand in the order in which they came, so those
     * of THE ROW are the ones from a place on that are not GONE. What is GONE stays COVERED by
     * one that is KEPT, so no PAIR is KEPT twice and PAIR_COUNT places are enough.
     */
    static final class Hunt {
        int length;
        int taken;
        int passed;
        int dropped;
        /** The place of the BAD PAIR, or NONE. */
        int bad;
        private int mode;
        private final Likeness likeness;
        private final int[] states;
        private final int[] sets;
        private final int[] parents;
        private final int[] letters;
        private final boolean[] gone;

        Hunt() {
            likeness = new Likeness();
            states = new int[PAIR_COUNT];
            sets = new int[PAIR_COUNT];
            parents = new int[PAIR_COUNT];
            letters = new int[PAIR_COUNT];
            gone = new boolean[PAIR_COUNT];
        }

        void run(Both both, int byMode) {
            mode = byMode;
            length = 0;
            taken = 0;
            passed = 0;
            dropped = 0;
            bad = NONE;
            if (mode == WIDE) {
                likeness.work(both);
            }
            come(both, 0, START_SET, NONE, 0);
            for (int at = 0; at < length && at < PAIR_COUNT && bad < 0; at++) {
                if (!gone[at]) {
                    taken++;
                    goOn(both, at);
                }
            }
        }

        int tellPair(int pair) {
            int number = 0;
            for (int at = 0; at < length && at < PAIR_COUNT; at++) {
                if (!gone[at]) {
                    if (number == pair) {
                        return 100 * states[at] + sets[at];
                    }
                    number++;
                }
            }
            return UNKNOWN;
        }

        void spell(Spelling word) {
            word.clear(bad >= 0);
            int place = bad;
            for (int at = 0; at < PAIR_COUNT; at++) {
                if (place < 0 || place >= PAIR_COUNT || parents[place] < 0) {
                    return;
                }
                word.prepend(letters[place]);
                place = parents[place];
            }
        }

        private void goOn(Both both, int at) {
            for (int by = 1; by <= LETTERS; by++) {
                int targets = both.zero.targets(states[at], by);
                int set = both.one.step(sets[at], by);
                for (int state = 0; state < MOST_ZERO && bad < 0; state++) {
                    if ((targets >> state & 1) != 0) {
                        come(both, state, set, at, by);
                    }
                }
            }
        }

        private void come(Both both, int state, int set, int parent, int by) {
            if (mode == WIDE && likeness.holds(0, state, 1, set) || isCoveredByKept(state, set)) {
                passed++;
                return;
            }
            dropCovered(state, set);
            if (length >= PAIR_COUNT) {
                return;
            }
            states[length] = state;
            sets[length] = set;
            parents[length] = parent;
            letters[length] = by;
            gone[length] = false;
            if (both.zero.isEnd(state) && !both.one.hasEndIn(set)) {
                bad = length;
            }
            length++;
        }

        private boolean isCoveredByKept(int state, int set) {
            for (int at = 0; at < length && at < PAIR_COUNT; at++) {
                if (!gone[at] && isCovered(state, set, states[at], sets[at])) {
                    return true;
                }
            }
            return false;
        }

        private void dropCovered(int state, int set) {
            for (int at = 0; at < length && at < PAIR_COUNT; at++) {
                if (!gone[at] && isCovered(states[at], sets[at], state, set)) {
                    gone[at] = true;
                    dropped++;
                }
            }
        }

        private boolean isCovered(int p, int s, int q, int t) {
            switch (mode) {
                case PLAIN:
                    return p == q && s == t;
                case LEAST:
                    return p == q && (s & t) == t;
                default:
                    return likeness.holds(0, p, 0, 1 << q) && likeness.holdsForEach(t, s);
            }
        }
    }

    /**
     * Where each WORD of 9 letters at most leads to in both MACHINES: node 1 is the WORD without
     * letters, and node n by a is node 2 n, by b node 2 n + 1.
     */
    static final class Tree {
        private final int[] nodes;

        Tree() {
            nodes = new int[2 << LONGEST_WORD];
        }

        void grow(Both both, int letters) {
            nodes[1] = START_SET + ZERO_SETS * START_SET;
            for (int node = 2; node < 2 << letters && node < nodes.length; node++) {
                int ahead = node / LETTERS;
                int by = node % LETTERS + 1;
                int zero = both.zero.step(zeroSet(ahead), by);
                int one = both.one.step(oneSet(ahead), by);
                nodes[node] = zero + ZERO_SETS * one;
            }
        }

        int zeroSet(int node) {
            return node >= 0 && node < nodes.length ? nodes[node] % ZERO_SETS : 0;
        }

        int oneSet(int node) {
            return node >= 0 && node < nodes.length ? nodes[node] / ZERO_SETS : 0;
        }
    }
}

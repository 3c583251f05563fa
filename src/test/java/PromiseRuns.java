import java.util.List;

/** Each promise by its number: ordinary calls, the edges that the document names, refusals. */
public final class PromiseRuns {
    private static final int UNKNOWN = -1, OUTSIDE = -2, STATE = -3, FULL = -4, NONE = -9;
    private static final int[] FAR = {Integer.MIN_VALUE, -10, -9, -1, 1000, Integer.MAX_VALUE};

    private static int wrong = 0;
    private static int promise = 0;

    private static void due(String call, long got, long want) {
        if (got != want) {
            wrong++;
            System.out.println("promise " + promise + ": " + call + " answered " + got + ", due is " + want);
        }
    }

    private static void write(WordsWithin x, String text) {
        x.wipe();
        for (char c : text.toCharArray()) {
            x.write(c);
        }
    }

    private static WordsWithin made(String text) {
        WordsWithin x = new WordsWithin();
        write(x, text);
        if (x.machines() < 0) {
            due("machines() of " + text, x.machines(), 0);
        }
        return x;
    }

    private static void unchanged(WordsWithin x, List<Long> was) {
        due("a refused call left all as it was:", Look.at(x).equals(was) ? 1 : 0, 1);
    }

    public static void main(String[] args) {
        newObject();
        text();
        faults();
        machines();
        acts();
        words();
        least();
        follows();
        searches();
        mended();
        judged();
        seen();
        shares();
        drawn();
        slots();
        counts();
        System.out.println(wrong == 0 ? "all promises are as due" : wrong + " answers are not as due");
        if (wrong != 0) {
            System.exit(1);
        }
    }

    private static void newObject() {
        promise = 1;
        WordsWithin x = new WordsWithin();
        int[] counts = {0, 1, 1, 0, 0, 0, 0, 0, 0};
        for (int what = 0; what < counts.length; what++) {
            due("count(" + what + ")", x.count(what), counts[what]);
        }
        due("edge(0, 0, 1, 0)", x.edge(0, 0, 1, 0), 0);
        due("edge(1, 0, 2, 0)", x.edge(1, 0, 2, 0), 0);
        due("within()", x.within(), 1);
        due("which()", x.which(), 17);
        due("again(0)", x.again(0), STATE);
        due("again(1)", x.again(1), STATE);
        due("undo()", x.undo(), STATE);
        due("seed(0)", x.seed(0), 0);
        due("machines()", x.machines(), STATE);
        WordsWithin other = new WordsWithin();
        x.end(0, 0);
        x.write('W');
        due("count(5) of another object", other.count(5), 0);
        due("count(0) of another object", other.count(0), 0);
    }

    private static void text() {
        promise = 2;
        WordsWithin x = new WordsWithin();
        due("write(0)", x.write(0), 1);
        due("write(255)", x.write(255), 2);
        List<Long> was = Look.at(x);
        for (int letter : new int[] {256, -1, Integer.MIN_VALUE, Integer.MAX_VALUE, 87 + 256}) {
            due("write(" + letter + ")", x.write(letter), OUTSIDE);
        }
        unchanged(x, was);
        for (int length = 3; length <= 80; length++) {
            due("write('q')", x.write('q'), length);
        }
        was = Look.at(x);
        due("write('q') as the 81st", x.write('q'), FULL);
        due("write(256) as the 81st", x.write(256), OUTSIDE);
        unchanged(x, was);
        promise = 3;
        due("wipe()", x.wipe(), 80);
        due("wipe()", x.wipe(), 0);
        due("count(0)", x.count(0), 0);
        due("write('W')", x.write('W'), 1);
        due("fault()", x.fault(), 1);
        due("wipe()", x.wipe(), 1);
        WordsWithin y = made("W11p0a0");
        y.wipe();
        due("count(3) behind wipe()", y.count(3), 1);
    }

    private static void fault(String text, int want) {
        WordsWithin x = new WordsWithin();
        write(x, text);
        due("fault() of " + text, x.fault(), want);
        due("count(0) behind fault() of " + text, x.count(0), text.length());
        due("count(1) behind fault() of " + text, x.count(1), 1);
        due("machines() of " + text + " refuses", x.machines() == STATE ? 1 : 0, want == NONE ? 0 : 1);
    }

    private static void faults() {
        promise = 4;
        fault("", 0);
        fault("w", 0);
        fault("w45", 0);
        fault("W", 1);
        fault("W0", 1);
        fault("W5", 1);
        fault("W5x", 1);
        fault("Wp", 1);
        fault("W/", 1);
        fault("W4", 2);
        fault("W40", 2);
        fault("W46", 2);
        fault("W4a", 2);
        fault("W45", NONE);
        fault("W11", NONE);
        fault("W45x", 3);
        fault("W45W", 3);
        fault("W45" + (char) 255, 3);
        fault("W45" + (char) 0, 3);
        fault("W450", 3);
        fault("W45p", 4);
        fault("W45p4", 4);
        fault("W45p9", 4);
        fault("W45pa", 4);
        fault("W45p3", 5);
        fault("W45p3c", 5);
        fault("W45p3A", 5);
        fault("W45p30", 5);
        fault("W45p3`", 5);
        fault("W45p3b", 6);
        fault("W45p3b4", 6);
        fault("W45p3bb", 6);
        fault("W45p3b3", NONE);
        fault("W45q5", 4);
        fault("W45q4a5", 6);
        fault("W45q4a4", NONE);
        fault("W45q4a4p", 8);
        fault("W45q4a4q4a4", 10);
        fault("W45q4a4p3a3", NONE);
        fault("W45P", 4);
        fault("W45P4", 4);
        fault("W45P3", NONE);
        fault("W45Q5", 4);
        fault("W45Q4", NONE);
        fault("W45Q4P3Q4", 8);
        fault("W45Pa", 4);
        // all edges by a letter from a state, all from a state, all of a machine are told
        fault("W11p0a0p0", 9);
        fault("W11p0a0p0a", 9);
        fault("W11p0a0p0a0", 9);
        fault("W11p0a0p0b", 10);
        fault("W11p0a0p0b0", NONE);
        fault("W11p0a0p0b0p", 11);
        fault("W11p0a0p0b0px", 11);
        fault("W11p0a0p0b0q0a0", NONE);
        fault("W11q0a0q0b0q", 11);
        fault("W21p0a0p0a1p0a", 13);
        fault("W21p0a0p0a1p0b0p0b1p", 20);
        fault("W21p0a0p0a1p0b0p0b1p0", 20);
        fault("W21p0a0p0a1p0b0p0b1p1", 21);
        fault("W21p0a0p1a1p0b0p0b1p0", 21);
        fault("W21p0a0p0a1p0b0p0b1p1a0p1a1p1b0p1b1p", 35);
        fault("W12q0a0q0a1q0b0q0b1q1a0q1a1q1b0q1b1q", 35);
        fault("W12q0a0q0a1q0b0q0b1q1a0q1a1q1b0q1b1p0a0", NONE);
        // all states are ends
        fault("W12P0P", 5);
        fault("W12P0P0", 5);
        fault("W12P0Q", 6);
        fault("W12P0Q1Q0", NONE);
        fault("W12P0Q1Q0Q", 9);
        fault("W12Q0Q0", 6);
        fault("W12P1", 4);
        longFaults();
    }

    private static void longFaults() {
        StringBuilder t = new StringBuilder("W45");
        for (int i = 0; i < 19; i++) {
            t.append('q').append(i / 10 % 5).append(i % 2 == 0 ? 'a' : 'b').append(i % 10 / 2);
        }
        due("letters", t.length(), 79);
        fault(t.toString(), NONE);
        fault(t + "q", 80);
        fault(t + "P", 80);
        fault(t + "x", 79);
    }

    private static void machines() {
        promise = 5;
        WordsWithin x = new WordsWithin();
        x.see(1, 1);
        x.seed(7);
        x.end(0, 0);
        x.keep(0);
        write(x, "W23p0a1p1b0q2a2q0b1q0a0P1Q2Q0");
        List<Long> was = Look.at(x);
        due("count(7)", x.count(7), 1);
        x.write('p');
        due("machines() with a fault", x.machines(), STATE);
        due("count(0)", x.count(0), 30);
        due("count(7) behind a refusal", x.count(7), 1);
        due("again(0) behind a refusal", x.again(0), 0);
        due("count(5) behind again(0)", x.count(5), 1);
        write(x, "W23p0a1p1b0q2a2q0b1q0a0P1Q2Q0");
        due("looks", was.size(), Look.at(x).size());
        x.turn(1, 0, 1, 0);
        due("machines()", x.machines(), 5);
        due("count(0): THE TEXT stays", x.count(0), 29);
        int[] counts = {29, 2, 3, 2, 3, 2, 5, 0, 1};
        for (int what = 0; what < counts.length; what++) {
            due("count(" + what + ")", x.count(what), counts[what]);
        }
        due("edge(0, 0, 1, 1)", x.edge(0, 0, 1, 1), 1);
        due("edge(0, 1, 2, 0)", x.edge(0, 1, 2, 0), 1);
        due("edge(1, 2, 1, 2)", x.edge(1, 2, 1, 2), 1);
        due("edge(1, 0, 2, 1)", x.edge(1, 0, 2, 1), 1);
        due("edge(1, 0, 1, 0)", x.edge(1, 0, 1, 0), 1);
        due("edge(1, 1, 1, 0)", x.edge(1, 1, 1, 0), 0);
        due("undo()", x.undo(), STATE);
        due("again(0): what was kept is gone", x.again(0), STATE);
        due("seed(0): THE SEED stays", x.seed(0), 7);
        due("machines() once more", x.machines(), 5);
        write(x, "W11");
        due("machines() of none", x.machines(), 0);
        due("count(5)", x.count(5), 0);
        due("count(2)", x.count(2), 1);
    }

    private static void acts() {
        WordsWithin x = made("W23p0a1q2b0P1Q2");
        List<Long> was = Look.at(x);
        promise = 6;
        due("edge(0, 0, 1, 1)", x.edge(0, 0, 1, 1), 1);
        due("edge(1, 2, 2, 0)", x.edge(1, 2, 2, 0), 1);
        due("edge(1, 0, 1, 1)", x.edge(1, 0, 1, 1), 0);
        due("edge(0, 1, 1, 0)", x.edge(0, 1, 1, 0), 0);
        int[][] bad = {{2, 0, 1, 0}, {-1, 0, 1, 0}, {0, 2, 1, 0}, {0, -1, 1, 0}, {0, 0, 0, 0}, {0, 0, 3, 0},
            {0, 0, 1, 2}, {0, 0, 1, -1}, {1, 3, 1, 0}, {1, 0, 1, 3}, {1, 0, -1, 0}};
        for (int[] b : bad) {
            String args = "(" + b[0] + ", " + b[1] + ", " + b[2] + ", " + b[3] + ")";
            promise = 6;
            due("edge" + args, x.edge(b[0], b[1], b[2], b[3]), UNKNOWN);
            promise = 7;
            due("turn" + args, x.turn(b[0], b[1], b[2], b[3]), UNKNOWN);
        }
        promise = 6;
        for (int far : FAR) {
            due("edge far", x.edge(far, 0, 1, 0), UNKNOWN);
            due("edge far", x.edge(0, far, 1, 0), UNKNOWN);
            due("edge far", x.edge(0, 0, far, 0), UNKNOWN);
            due("edge far", x.edge(1, 0, 1, far), UNKNOWN);
        }
        unchanged(x, was);
        promise = 7;
        due("turn(0, 1, 2, 0)", x.turn(0, 1, 2, 0), 1);
        due("edge(0, 1, 2, 0)", x.edge(0, 1, 2, 0), 1);
        due("count(3)", x.count(3), 2);
        due("turn(0, 0, 1, 1)", x.turn(0, 0, 1, 1), 0);
        due("edge(0, 0, 1, 1)", x.edge(0, 0, 1, 1), 0);
        due("turn(1, 2, 1, 2)", x.turn(1, 2, 1, 2), 1);
        due("count(4)", x.count(4), 2);
        promise = 8;
        due("end(0, 1)", x.end(0, 1), 0);
        due("count(5)", x.count(5), 0);
        due("end(1, 0)", x.end(1, 0), 1);
        due("count(6)", x.count(6), 5);
        List<Long> then = Look.at(x);
        for (int far : FAR) {
            due("end(0, " + far + ")", x.end(0, far), UNKNOWN);
            due("end(" + far + ", 0)", x.end(far, 0), UNKNOWN);
        }
        due("end(0, 2)", x.end(0, 2), UNKNOWN);
        due("end(1, 3)", x.end(1, 3), UNKNOWN);
        due("end(2, 0)", x.end(2, 0), UNKNOWN);
        unchanged(x, then);
        promise = 9;
        for (int left = 4; left >= 0; left--) {
            due("undo()", x.undo(), left);
        }
        unchanged(x, was);
        due("undo()", x.undo(), STATE);
        unchanged(x, was);
        forgotten();
    }

    private static void forgotten() {
        WordsWithin x = made("W45");
        for (int i = 0; i < 16; i++) {
            due("turn()", x.turn(0, i / 8, i / 4 % 2 + 1, i % 4), 1);
            due("count(7)", x.count(7), Math.min(i + 1, 14));
        }
        for (int left = 13; left >= 0; left--) {
            due("undo()", x.undo(), left);
            due("count(3)", x.count(3), left + 2);
        }
        due("undo()", x.undo(), STATE);
        due("edge(0, 0, 1, 0)", x.edge(0, 0, 1, 0), 1);
        due("edge(0, 0, 1, 1)", x.edge(0, 0, 1, 1), 1);
        due("edge(0, 0, 1, 2)", x.edge(0, 0, 1, 2), 0);
    }

    private static void words() {
        // MACHINE 0: words with b last but one; MACHINE 1: words of even length
        WordsWithin x = made("W32p0a0p0b0p0b1p1a2p1b2P2q0a1q0b1q1a0q1b0Q0");
        List<Long> was = Look.at(x);
        promise = 10;
        due("takes(0, 21)", x.takes(0, 21), 1);
        due("takes(0, 12)", x.takes(0, 12), 0);
        due("takes(0, 22)", x.takes(0, 22), 1);
        due("takes(0, 0)", x.takes(0, 0), 0);
        due("takes(1, 0)", x.takes(1, 0), 1);
        due("takes(1, 1)", x.takes(1, 1), 0);
        due("takes(0, 111111121)", x.takes(0, 111111121), 1);
        due("takes(0, 111111211)", x.takes(0, 111111211), 0);
        due("takes(0, 222222222)", x.takes(0, 222222222), 1);
        due("takes(1, 22222222)", x.takes(1, 22222222), 1);
        promise = 11;
        due("after(0, 0)", x.after(0, 0), 1);
        due("after(0, 2)", x.after(0, 2), 3);
        due("after(0, 21)", x.after(0, 21), 5);
        due("after(0, 12)", x.after(0, 12), 3);
        due("after(0, 22)", x.after(0, 22), 7);
        due("after(1, 122)", x.after(1, 122), 2);
        due("after() to no states", made("W11").after(0, 1), 0);
        int[] odd = {-1, 3, 9, 10, 101, 20, 13, 31, 1111111111, 2111111111, 1000000001, 300000000,
            Integer.MAX_VALUE, Integer.MIN_VALUE, -12};
        for (int word : odd) {
            promise = 10;
            due("takes(0, " + word + ")", x.takes(0, word), OUTSIDE);
            due("takes(2, " + word + ")", x.takes(2, word), UNKNOWN);
            promise = 11;
            due("after(1, " + word + ")", x.after(1, word), OUTSIDE);
            due("after(-1, " + word + ")", x.after(-1, word), UNKNOWN);
        }
        for (int far : FAR) {
            promise = 10;
            due("takes(" + far + ", 1)", x.takes(far, 1), UNKNOWN);
            promise = 11;
            due("after(" + far + ", 1)", x.after(far, 1), UNKNOWN);
        }
        promise = 12;
        int[] zero = {0, 0, 2, 4, 8, 16, 32, 64, 128, 256};
        for (int n = 0; n <= 9; n++) {
            int one = n % 2 == 0 ? 1 << n : 0;
            int both = n % 2 == 0 ? zero[n] : 0;
            due("many(" + n + ", 0)", x.many(n, 0), zero[n]);
            due("many(" + n + ", 1)", x.many(n, 1), one);
            due("many(" + n + ", 2)", x.many(n, 2), both);
            due("many(" + n + ", 3)", x.many(n, 3), zero[n] - both);
        }
        due("many(10, 0)", x.many(10, 0), OUTSIDE);
        due("many(0, 4)", x.many(0, 4), OUTSIDE);
        for (int far : FAR) {
            due("many(" + far + ", 0)", x.many(far, 0), OUTSIDE);
            due("many(1, " + far + ")", x.many(1, far), OUTSIDE);
        }
        unchanged(x, was);
    }

    private static void least() {
        WordsWithin x = made("W32p0a0p0b0p0b1p1a2p1b2P2q0a1q0b1q1a0q1b0Q0");
        List<Long> was = Look.at(x);
        promise = 13;
        due("within()", x.within(), 0);
        promise = 14;
        int[] aba = {3, 1, 2, 1, NONE, NONE};
        for (int k = 0; k < aba.length; k++) {
            due("missing(" + k + ")", x.missing(k), aba[k]);
        }
        due("missing(200)", x.missing(200), NONE);
        due("missing(201)", x.missing(201), OUTSIDE);
        for (int far : FAR) {
            due("missing(" + far + ")", x.missing(far), OUTSIDE);
        }
        promise = 15;
        due("leftOut(0, 0)", x.leftOut(0, 0), 0);
        due("leftOut(0, 1)", x.leftOut(0, 1), NONE);
        due("leftOut(1, 0)", x.leftOut(1, 0), 1);
        due("leftOut(1, 1)", x.leftOut(1, 1), 1);
        due("leftOut(1, 2)", x.leftOut(1, 2), NONE);
        due("leftOut(1, 200)", x.leftOut(1, 200), NONE);
        due("leftOut(1, 201)", x.leftOut(1, 201), OUTSIDE);
        due("leftOut(2, 201)", x.leftOut(2, 201), UNKNOWN);
        for (int far : FAR) {
            due("leftOut(0, " + far + ")", x.leftOut(0, far), OUTSIDE);
            due("leftOut(" + far + ", 0)", x.leftOut(far, 0), UNKNOWN);
        }
        unchanged(x, was);
        leastOfOthers();
    }

    private static void leastOfOthers() {
        promise = 13;
        // each word with an a is one with anything; the other way round it is not
        WordsWithin x = made("W21p0b0p0a1p1a1p1b1P1q0a0q0b0Q0");
        due("within()", x.within(), 1);
        promise = 14;
        due("missing(0)", x.missing(0), NONE);
        due("missing(1)", x.missing(1), NONE);
        promise = 15;
        due("leftOut(0, 0)", x.leftOut(0, 0), 0);
        due("leftOut(1, 0)", x.leftOut(1, 0), NONE);
        due("leftOut(1, 1)", x.leftOut(1, 1), NONE);
        // no ends of MACHINE 0: no words; a word without letters that is missing
        promise = 14;
        WordsWithin y = made("W11");
        due("missing(0)", y.missing(0), NONE);
        y.end(0, 0);
        due("missing(0)", y.missing(0), 0);
        due("missing(1)", y.missing(1), NONE);
        promise = 13;
        due("within()", y.within(), 0);
        y.end(1, 0);
        due("within()", y.within(), 1);
        promise = 15;
        // all words but bb: least that is left out is bb, behind those that are shorter
        WordsWithin z = made("W14q0a3q0b1q1a3q1b2q2a3q2b3q3a3q3b3Q0Q1Q3");
        due("leftOut(1, 0)", z.leftOut(1, 0), 2);
        due("leftOut(1, 1)", z.leftOut(1, 1), 2);
        due("leftOut(1, 2)", z.leftOut(1, 2), 2);
        promise = 14;
        // both aa and ab are missing, by different states of MACHINE 0: aa is the least
        WordsWithin w = made("W41p0a1p0a2p1b3p2a3P3");
        due("missing(0)", w.missing(0), 2);
        due("missing(1)", w.missing(1), 1);
        due("missing(2)", w.missing(2), 1);
        // b is less than aa
        WordsWithin v = made("W31p0a1p1a2p0b2P2");
        due("missing(0)", v.missing(0), 1);
        due("missing(1)", v.missing(1), 2);
        longMissing();
    }

    /** Rings of 4 and of 5 states: what is missing is long. */
    private static void longMissing() {
        promise = 14;
        WordsWithin x = made("W45p0a1p1a2p2a3p3a0P3q0a1q1a2q2a3q3a4q4a0Q0Q1Q2Q3");
        // lengths that are 3 by 4 and 4 by 5: 19
        due("missing(0)", x.missing(0), 19);
        due("missing(1)", x.missing(1), 1);
        due("missing(19)", x.missing(19), 1);
        due("missing(20)", x.missing(20), NONE);
        promise = 19;
        for (int mode = 0; mode < 3; mode++) {
            due("found(" + mode + ", 0)", x.found(mode, 0), 19);
            due("found(" + mode + ", 19)", x.found(mode, 19), 1);
            due("found(" + mode + ", 20)", x.found(mode, 20), NONE);
        }
        promise = 17;
        due("search(0, 1)", x.search(0, 1), 19);
        due("search(0, 2)", x.search(0, 2), 20);
    }

    private static void follows() {
        promise = 16;
        // MACHINE 0: a, then a or b by one state each; MACHINE 1: one state for both
        WordsWithin x = made("W43p0a1p0a2p1a3p2b3P3q0a1q1a2q1b2Q2");
        due("follows(0, 0, 1, 0)", x.follows(0, 0, 1, 0), 1);
        due("follows(1, 0, 0, 0)", x.follows(1, 0, 0, 0), 0);
        due("follows(0, 1, 1, 1)", x.follows(0, 1, 1, 1), 1);
        due("follows(1, 1, 0, 1)", x.follows(1, 1, 0, 1), 0);
        due("follows(0, 3, 1, 2)", x.follows(0, 3, 1, 2), 1);
        due("follows(1, 2, 0, 3)", x.follows(1, 2, 0, 3), 1);
        due("follows(0, 3, 1, 1)", x.follows(0, 3, 1, 1), 0);
        due("follows(0, 1, 0, 2)", x.follows(0, 1, 0, 2), 0);
        due("follows(1, 2, 1, 2)", x.follows(1, 2, 1, 2), 1);
        for (int s = 0; s < 4; s++) {
            due("follows itself", x.follows(0, s, 0, s), 1);
        }
        List<Long> was = Look.at(x);
        int[][] bad = {{2, 0, 1, 0}, {-1, 0, 1, 0}, {0, 4, 1, 0}, {0, -1, 1, 0}, {0, 0, 2, 0}, {0, 0, -1, 0},
            {0, 0, 1, 3}, {1, 3, 0, 0}, {1, 0, 0, 4}, {0, 0, 1, -1}};
        for (int[] b : bad) {
            due("follows of what is not there", x.follows(b[0], b[1], b[2], b[3]), UNKNOWN);
        }
        for (int far : FAR) {
            due("follows far", x.follows(far, 0, 0, 0), UNKNOWN);
            due("follows far", x.follows(0, far, 0, 0), UNKNOWN);
            due("follows far", x.follows(0, 0, far, 0), UNKNOWN);
            due("follows far", x.follows(0, 0, 0, far), UNKNOWN);
        }
        unchanged(x, was);
        // rings of 2 and 3: as widely as can be told at once
        WordsWithin y = made("W23p0a1p1a0P0P1q0a1q1a2q2a0Q0Q1Q2");
        due("follows(0, 0, 1, 2)", y.follows(0, 0, 1, 2), 1);
        due("follows(1, 1, 0, 0)", y.follows(1, 1, 0, 0), 1);
        y.end(1, 1);
        due("follows(0, 0, 1, 2)", y.follows(0, 0, 1, 2), 0);
        due("follows(1, 1, 0, 0)", y.follows(1, 1, 0, 0), 1);
    }

    private static void search(WordsWithin x, int mode, int... want) {
        promise = 17;
        for (int what = 0; what < 5; what++) {
            due("search(" + mode + ", " + what + ")", x.search(mode, what), want[what]);
        }
        promise = 18;
        for (int pair = 5; pair < want.length; pair++) {
            due("kept(" + mode + ", " + (pair - 5) + ")", x.kept(mode, pair - 5), want[pair]);
        }
        due("kept(" + mode + ", one more)", x.kept(mode, want.length - 5), UNKNOWN);
        due("kept(" + mode + ", -1)", x.kept(mode, -1), UNKNOWN);
    }

    private static void searches() {
        // by a the first PAIR is GONE while it is TAKEN, and goes on by b; one is GONE of the ROW
        WordsWithin x = made("W21p0a0p0b1q0b0");
        search(x, 0, 1, 4, 4, 1, 0, 1, 0, 101, 100);
        search(x, 1, 1, 3, 2, 1, 2, 0, 100);
        search(x, 2, 1, 2, 1, 3, 1, 0);
        promise = 19;
        due("found(0, 0)", x.found(0, 0), NONE);
        due("found(1, 1)", x.found(1, 1), NONE);
        // the first PAIR is BAD: none is TAKEN
        WordsWithin y = made("W11P0");
        for (int mode = 0; mode < 3; mode++) {
            search(y, mode, 0, 0, 1, 0, 0, 1);
            promise = 19;
            due("found(" + mode + ", 0)", y.found(mode, 0), 0);
            due("found(" + mode + ", 1)", y.found(mode, 1), NONE);
        }
        // by WIDE the first one is PASSED OVER: none is KEPT
        WordsWithin z = made("W11P0Q0");
        search(z, 0, 1, 1, 1, 0, 0, 1);
        search(z, 2, 1, 0, 0, 1, 0);
        // the BAD PAIR comes by ab, though aa is the least one; the search ends at once
        WordsWithin w = made("W41p0a1p0a2p1b3p2a3P3");
        search(w, 0, 0, 2, 4, 0, 0, 1, 100, 200, 300);
        search(w, 1, 0, 2, 4, 0, 0, 1, 100, 200, 300);
        promise = 19;
        for (int mode = 0; mode < 2; mode++) {
            due("found(" + mode + ", 0)", w.found(mode, 0), 2);
            due("found(" + mode + ", 1)", w.found(mode, 1), 1);
            due("found(" + mode + ", 2)", w.found(mode, 2), 2);
            due("found(" + mode + ", 3)", w.found(mode, 3), NONE);
        }
        badOneCovers();
        wideCovers();
        askedFirst();
        searchRefusals(w);
    }

    /** (0, {0}) by a leads to (0, {}) that is BAD and COVERS it: it is GONE ahead of its end. */
    private static void badOneCovers() {
        WordsWithin x = made("W11p0a0P0Q0");
        search(x, 0, 0, 1, 2, 0, 0, 1, 0);
        search(x, 1, 0, 1, 1, 0, 1, 0);
        search(x, 2, 0, 1, 1, 0, 1, 0);
        promise = 19;
        due("found(1, 0)", x.found(1, 0), 1);
        due("found(1, 1)", x.found(1, 1), 1);
        due("found(2, 1)", x.found(2, 1), 1);
    }

    /**
     * By a MACHINE 0 goes to 1 and 2, where 1 FOLLOWS 2 and not the other way round; MACHINE 1
     * goes to a state that neither FOLLOWS.
     */
    private static void wideCovers() {
        WordsWithin x = made("W32p0a1p0a2p1a1p2a2p2b2q0a1q0a0");
        // LEAST: (0,{0}) is TAKEN: (1,{0,1}), (2,{0,1}) are KEPT; each comes again by a and is
        // PASSED OVER; (2,{}) by b makes (2,{0,1}) GONE, and comes again by a and by b
        search(x, 1, 1, 4, 3, 4, 1, 1, 103, 200);
        // WIDE: (1,{0,1}) is PASSED OVER, 1 FOLLOWS 0 of MACHINE 1; (2,{0,1}) makes (0,{0}) GONE,
        // 0 FOLLOWS 2; it comes again by a; (2,{}) by b makes it GONE, and comes again twice
        search(x, 2, 1, 3, 1, 4, 2, 200);
    }

    /** Nothing that an earlier call found is told by a later one. */
    private static void askedFirst() {
        promise = 17;
        due("search(2, 3) as the first call", made("W11P0Q0").search(2, 3), 1);
        // the first PAIR comes again and stays
        WordsWithin x = made("W11p0a0q0a0");
        search(x, 0, 1, 1, 1, 1, 0, 1);
        search(x, 1, 1, 1, 1, 1, 0, 1);
        promise = 19;
        WordsWithin y = made("W11p0a0P0Q0");
        due("found(0, 0) as the first call", y.found(0, 0), 1);
        y.turn(1, 0, 1, 0);
        due("found(0, 0) behind turn()", y.found(0, 0), NONE);
        due("found(2, 0) behind turn()", y.found(2, 0), NONE);
        y.undo();
        due("found(2, 0) behind undo()", y.found(2, 0), 1);
        promise = 18;
        WordsWithin w = made("W21p0a1q0a0");
        due("kept(0, 1) as the first call", w.kept(0, 1), 101);
        due("kept(2, 0) by another mode", w.kept(2, 0), UNKNOWN);
        w.turn(1, 0, 1, 0);
        due("kept(0, 1) behind turn()", w.kept(0, 1), 100);
        promise = 14;
        due("missing(0)", y.missing(0), 1);
        y.turn(1, 0, 1, 0);
        due("missing(0) behind turn()", y.missing(0), NONE);
        promise = 15;
        due("leftOut(1, 0)", y.leftOut(1, 0), 1);
        due("leftOut(1, 1)", y.leftOut(1, 1), 2);
        y.turn(1, 0, 2, 0);
        due("leftOut(1, 0) behind turn()", y.leftOut(1, 0), NONE);
        promise = 20;
        WordsWithin z = new WordsWithin();
        z.end(0, 0);
        z.turn(0, 0, 2, 0);
        z.end(1, 0);
        mended(z, 0, 1, 20);
        mended(z, 1, 1, 20);
    }

    private static void searchRefusals(WordsWithin x) {
        List<Long> was = Look.at(x);
        int[] modes = {-1, 3, Integer.MIN_VALUE, Integer.MAX_VALUE};
        for (int mode : modes) {
            promise = 17;
            due("search(" + mode + ", 0)", x.search(mode, 0), OUTSIDE);
            promise = 18;
            due("kept(" + mode + ", 0)", x.kept(mode, 0), OUTSIDE);
            due("kept(" + mode + ", 99)", x.kept(mode, 99), OUTSIDE);
            promise = 19;
            due("found(" + mode + ", 0)", x.found(mode, 0), OUTSIDE);
        }
        for (int far : FAR) {
            promise = 17;
            due("search(0, " + far + ")", x.search(0, far), OUTSIDE);
            promise = 18;
            due("kept(0, " + far + ")", x.kept(0, far), UNKNOWN);
            promise = 19;
            due("found(0, " + far + ")", x.found(0, far), OUTSIDE);
        }
        promise = 17;
        due("search(0, 5)", x.search(0, 5), OUTSIDE);
        promise = 19;
        due("found(0, 200)", x.found(0, 200), NONE);
        due("found(0, 201)", x.found(0, 201), OUTSIDE);
        unchanged(x, was);
    }

    private static void mended(WordsWithin x, int machine, int sum, int first) {
        due("mended(" + machine + ", 0)", x.mended(machine, 0), sum);
        due("mended(" + machine + ", 1)", x.mended(machine, 1), first);
    }

    private static void mended() {
        promise = 20;
        // MACHINE 0 takes a b; MACHINE 1 takes a only
        WordsWithin x = made("W32p0a1p1b2P2q0a1Q1");
        List<Long> was = Look.at(x);
        mended(x, 0, 2, 11);
        // b from 1 to 1 takes ab; b from 0 to 1 does not
        mended(x, 1, 1, 121);
        unchanged(x, was);
        // two words too many: no edge does alone
        WordsWithin y = made("W21p0a1p0b1P1Q0");
        mended(y, 0, 0, NONE);
        mended(y, 1, 0, NONE);
        // by an edge, though it goes round: all words of a; MACHINE 1 has the one without letters
        WordsWithin z = made("W12p0a0P0Q0");
        mended(z, 0, 1, 10);
        mended(z, 1, 1, 10);
        // an end, no edge: nothing less or more mends
        WordsWithin w = made("W22p0a1P0");
        mended(w, 0, 0, NONE);
        mended(w, 1, 0, NONE);
        // it is WITHIN
        WordsWithin v = made("W11p0a0q0a0P0Q0");
        mended(v, 0, 0, NONE);
        mended(v, 1, 0, NONE);
        // two ways to an end: one edge less leaves the other one
        WordsWithin u = made("W42p0a1p0a2p1a3p2a3P3q0a1q1b0Q0");
        mended(u, 0, 0, NONE);
        mended(u, 1, 2, 10);
        for (int far : FAR) {
            due("mended(" + far + ", 0)", x.mended(far, 0), UNKNOWN);
            due("mended(" + far + ", 9)", x.mended(far, 9), UNKNOWN);
            due("mended(0, " + far + ")", x.mended(0, far), OUTSIDE);
        }
        due("mended(2, 0)", x.mended(2, 0), UNKNOWN);
        due("mended(1, 2)", x.mended(1, 2), OUTSIDE);
        due("mended(1, 2) WITHIN", v.mended(1, 2), OUTSIDE);
        unchanged(x, was);
    }

    private static void judged() {
        promise = 21;
        // MACHINE 0 takes a; MACHINE 1 takes a and ab
        WordsWithin x = made("W23p0a1P1q0a1q1b2Q1Q2");
        List<Long> was = Look.at(x);
        long[][] rows = {
            // n, row, the place
            {1, 10120, NONE}, {1, 10130, 0}, {1, 10011, NONE}, {1, 10021, NONE}, {1, 10210, 0}, {1, 12010, 0}, {1, 10031, 0},
            {1, 10001, 0}, {1, 11212, NONE}, {1, 11312, 0}, {1, 11213, 0}, {1, 10012, 0},
            {1, 20000, NONE}, {1, 20100, NONE}, {1, 20200, 0}, {1, 21200, NONE}, {1, 21300, 0}, {1, 22000, 0},
            {1, 20010, 0}, {1, 20001, 0},
            {1, 30001, NONE}, {1, 30000, 0}, {1, 31012, NONE}, {1, 30012, 0}, {1, 31112, 0}, {1, 32001, 0},
            {1, 30003, 0}, {1, 30010, 0}, {1, 30100, 0}, {1, 31102, 0}, {1, 31900, 0},
            {1, 40001, NONE}, {1, 40000, 0}, {1, 40002, 0}, {1, 40011, 0}, {1, 40101, 0}, {1, 41001, 0},
            {1, 50001, NONE}, {1, 50000, 0}, {1, 51101, NONE}, {1, 51001, 0}, {1, 51000, NONE}, {1, 51201, NONE},
            {1, 50002, 0}, {1, 50011, 0}, {1, 52001, 0}, {1, 50301, 0}, {1, 52000, 0},
            {1, 0, 0}, {1, 1, 0}, {1, 60000, 0}, {1, 99999, 0},
            {2, 2000040002L, 1}, {1, 51002, 0}, {1, 50102, 0},
            // what is done is done for those behind it
            {2, 2000030000L, NONE}, {2, 3000020000L, 0}, {2, 2000040001L, 1}, {2, 2000040000L, NONE},
            {2, 1001130000L, 1}, {2, 1001130001L, 1}, {3, 100112010040001L, NONE},
            {3, 200004000050001L, 2}, {3, 200002000030000L, 2}, {3, 300013000130001L, NONE},
            {3, 100111001130001L, NONE}, {3, 1, 0}, {3, 400014000140000L, 2},
        };
        for (long[] row : rows) {
            due("judge(" + row[0] + ", " + row[1] + ")", x.judge((int) row[0], row[1]), row[2]);
        }
        unchanged(x, was);
        long[][] refused = {{0, 0}, {4, 0}, {-1, 40001}, {Integer.MAX_VALUE, 1}, {Integer.MIN_VALUE, 1},
            {1, 100000}, {1, -1}, {2, 10000000000L}, {3, 1000000000000000L}, {3, Long.MAX_VALUE},
            {3, Long.MIN_VALUE}, {2, -40001}};
        for (long[] row : refused) {
            due("judge(" + row[0] + ", " + row[1] + ")", x.judge((int) row[0], row[1]), OUTSIDE);
        }
        due("judge(2, 9999999999)", x.judge(2, 9999999999L), 0);
        due("judge(3, 999999999999999)", x.judge(3, 999999999999999L), 0);
        unchanged(x, was);
    }

    private static void seen() {
        promise = 24;
        // MACHINE 0: a ring by a with END 2 of 3; MACHINE 1: a to the right, END 4
        WordsWithin x = made("W35p0a1p1a2p2a0P2q0a1q1a2q2a3q3a4Q4");
        due("which() without what is SEEN", x.which(), 7 + 16 * 31);
        promise = 22;
        due("see(11, 1)", x.see(11, 1), 1);
        promise = 24;
        due("which()", x.which(), 1 + 16 * 4);
        promise = 22;
        due("see(0, 0)", x.see(0, 0), 2);
        due("see(1111, 0)", x.see(1111, 0), 3);
        promise = 24;
        due("which()", x.which(), 1 + 16 * 4);
        due("see(11111, 1)", x.see(11111, 1), 4);
        due("which()", x.which(), 1);
        x.end(0, 2);
        due("which()", x.which(), 0);
        x.undo();
        due("which()", x.which(), 1);
        promise = 22;
        List<Long> was = Look.at(x);
        for (int far : FAR) {
            due("see(1, " + far + ")", x.see(1, far), OUTSIDE);
        }
        for (int word : new int[] {-1, 3, 10, 1111111111, Integer.MAX_VALUE, Integer.MIN_VALUE}) {
            due("see(" + word + ", 1)", x.see(word, 1), OUTSIDE);
        }
        due("see(1, 2)", x.see(1, 2), OUTSIDE);
        unchanged(x, was);
        due("see(222222222, 0)", x.see(222222222, 0), 5);
        due("see(11, 1) again", x.see(11, 1), 6);
        was = Look.at(x);
        due("see(11, 1)", x.see(11, 1), FULL);
        due("see(3, 1)", x.see(3, 1), OUTSIDE);
        due("see(1, 2)", x.see(1, 2), OUTSIDE);
        unchanged(x, was);
        promise = 23;
        due("unsee()", x.unsee(), 6);
        due("unsee()", x.unsee(), 0);
        due("count(8)", x.count(8), 0);
        due("which()", x.which(), 7 + 16 * 31);
        due("see(0, 1)", x.see(0, 1), 1);
        due("which()", x.which(), 4 + 16 * 16);
    }

    private static void share(WordsWithin x, int state, int above, int below) {
        due("share(" + state + ", true)", x.share(state, true), above);
        due("share(" + state + ", false)", x.share(state, false), below);
    }

    private static void lost(WordsWithin x, int tenths, int above, int below) {
        due("lost(" + tenths + ", true)", x.lost(tenths, true), above);
        due("lost(" + tenths + ", false)", x.lost(tenths, false), below);
    }

    private static void shares() {
        promise = 25;
        // MACHINE 0: 7 words of a; by each with letters MACHINE 1 is in both ENDS
        WordsWithin x = made("W13p0a0P0q0a0q0a1Q0Q1");
        List<Long> was = Look.at(x);
        share(x, 0, 4, 1);
        share(x, 1, 3, 1);
        share(x, 2, STATE, STATE);
        share(x, 3, UNKNOWN, UNKNOWN);
        for (int far : FAR) {
            share(x, far, UNKNOWN, UNKNOWN);
        }
        // the word a, by which it is in 3 ENDS; what is no END has none
        share(made("W23p0a1P1q0a0q0a1q0a2Q0Q1Q2"), 1, 1, 3);
        share(made("W23p0a1P1q0a0q0a1q0a2Q1Q2"), 1, 1, 2);
        // words that MACHINE 0 does not take give nothing
        share(made("W11q0a0q0b0Q0"), 0, 0, 1);
        // all 127 words
        share(made("W11p0a0p0b0P0q0a0q0b0Q0"), 0, 127, 1);
        // a in 2 ENDS, aa in 3: 1 / 2 and 1 / 3
        share(made("W34p0a1p1a2P1P2q0a1q0a2q1a1q1a2q1a3Q1Q2Q3"), 1, 5, 6);
        share(made("W34p0a1p1a2P1P2q0a1q0a2q1a1q1a2q1a3Q1Q2Q3"), 3, 1, 3);
        promise = 26;
        // the word a, by which MACHINE 1 is in two ENDS: one of them is enough
        WordsWithin y = made("W23p0a1P1q0a1q0a2Q1Q2");
        lost(y, 0, 1, 1);
        lost(y, 3, 91, 100);
        lost(y, 5, 3, 4);
        lost(y, 10, 0, 1);
        // another END that is of no use changes nothing
        y.end(1, 0);
        lost(y, 3, 91, 100);
        // no words, and no ENDS: always
        lost(made("W11"), 4, 1, 1);
        lost(made("W11Q0"), 4, 1, 1);
        // without ENDS never
        lost(made("W11P0"), 0, 0, 1);
        // five ENDS, each is needed: by 9 tenths 1 / 100000
        WordsWithin z = made("W15p0a0P0q0a1q1a2q2a3q3a4q4a0Q0Q1Q2Q3Q4");
        lost(z, 9, 1, 100000);
        lost(z, 2, 1024, 3125);
        for (int far : FAR) {
            lost(x, far, OUTSIDE, OUTSIDE);
        }
        lost(x, 11, OUTSIDE, OUTSIDE);
        lost(x, -1, OUTSIDE, OUTSIDE);
        unchanged(x, was);
    }

    private static void drawn() {
        promise = 27;
        WordsWithin x = made("W11p0a0p0b0P0");
        due("seed(5)", x.seed(5), 0);
        due("seed(min)", x.seed(Long.MIN_VALUE), 5);
        due("seed(-7)", x.seed(-7), Long.MIN_VALUE);
        due("seed(0)", x.seed(0), -7);
        promise = 28;
        List<Long> was = Look.at(x);
        for (int far : FAR) {
            due("drawn(" + far + ")", x.drawn(far), OUTSIDE);
        }
        due("drawn(0)", x.drawn(0), OUTSIDE);
        due("drawn(21)", x.drawn(21), OUTSIDE);
        unchanged(x, was);
        // MACHINE 0 takes all words, MACHINE 1 none
        due("drawn(20)", x.drawn(20), 20);
        due("drawn(1)", x.drawn(1), 1);
        x.turn(1, 0, 1, 0);
        x.turn(1, 0, 2, 0);
        x.end(1, 0);
        due("drawn(20)", x.drawn(20), 60);
        x.seed(0);
        x.drawn(1);
        due("seed(0) behind one", x.seed(0), 1442695040888963407L);
        x.drawn(2);
        due("seed(0) behind two", x.seed(0), 1442695040888963407L * 6364136223846793005L + 1442695040888963407L);
        oneWord();
    }

    /** One word each time, by MACHINES that tell its first letter, and its last one. */
    private static void oneWord() {
        long seed = 0;
        for (int i = 0; i < 60; i++) {
            long next = seed * 6364136223846793005L + 1442695040888963407L;
            long v = next >>> 33;
            int word = 0;
            for (int k = 0; k < v % 10; k++) {
                word = word * 10 + 1 + (int) (v / 16 / (1L << k) % 2);
            }
            WordsWithin x = made("W22p0b1p1a1p1b1P1q0a0q0b0q0b1Q1");
            x.seed(seed);
            due("drawn(1) by " + seed, x.drawn(1), x.takes(0, word) + 2 * x.takes(1, word));
            due("seed() behind " + seed, x.seed(0), next);
            seed = next;
        }
    }

    private static void slots() {
        WordsWithin x = made("W23p0a1P1q0b2Q2");
        promise = 29;
        due("keep(0)", x.keep(0), 2);
        x.turn(0, 1, 1, 1);
        x.turn(1, 1, 1, 1);
        x.end(1, 2);
        due("keep(1)", x.keep(1), 4);
        due("count(7) behind keep", x.count(7), 3);
        due("undo() behind keep", x.undo(), 2);
        due("count(6)", x.count(6), 4);
        x.turn(1, 1, 2, 1);
        promise = 30;
        due("again(1)", x.again(1), 4);
        due("count(7): the row is empty", x.count(7), 0);
        due("undo()", x.undo(), STATE);
        due("count(6)", x.count(6), 0);
        due("edge(1, 1, 2, 1)", x.edge(1, 1, 2, 1), 0);
        due("again(0)", x.again(0), 2);
        due("count(6)", x.count(6), 4);
        due("edge(0, 1, 1, 1)", x.edge(0, 1, 1, 1), 0);
        due("again(1), it is still kept", x.again(1), 4);
        promise = 29;
        due("keep(0) over what was there", x.keep(0), 4);
        x.turn(0, 0, 1, 1);
        due("again(0)", x.again(0), 4);
        due("edge(0, 0, 1, 1)", x.edge(0, 0, 1, 1), 1);
        List<Long> was = Look.at(x);
        for (int slot : new int[] {-1, 2, Integer.MIN_VALUE, Integer.MAX_VALUE}) {
            promise = 29;
            due("keep(" + slot + ")", x.keep(slot), UNKNOWN);
            promise = 30;
            due("again(" + slot + ")", x.again(slot), UNKNOWN);
        }
        unchanged(x, was);
        WordsWithin y = new WordsWithin();
        y.end(0, 0);
        was = Look.at(y);
        due("again(0)", y.again(0), STATE);
        due("again(1)", y.again(1), STATE);
        unchanged(y, was);
        due("keep(1)", y.keep(1), 0);
        due("again(0)", y.again(0), STATE);
        y.undo();
        due("again(1)", y.again(1), 0);
        due("count(5)", y.count(5), 1);
        // what is written, SEEN, THE SEED are not kept
        y.keep(0);
        y.write('W');
        y.see(1, 0);
        y.seed(9);
        y.again(0);
        due("count(0)", y.count(0), 1);
        due("count(8)", y.count(8), 1);
        due("seed(0)", y.seed(0), 9);
    }

    private static void counts() {
        promise = 31;
        WordsWithin x = made("W45p0a1p3b3q4a4q4b4q0a0P0P3Q4Q1");
        x.turn(0, 0, 1, 0);
        x.end(1, 0);
        x.see(1, 1);
        x.see(1, 1);
        x.see(1, 1);
        int[] all = {31, 4, 5, 3, 3, 9, 19, 2, 3};
        for (int what = 0; what < all.length; what++) {
            due("count(" + what + ")", x.count(what), all[what]);
        }
        for (int far : FAR) {
            due("count(" + far + ")", x.count(far), OUTSIDE);
        }
        due("count(9)", x.count(9), OUTSIDE);
    }
}

/**
 * The boundary cases that promises 1 to 31 name, each with a test of its own: the last number that
 * is still taken and the first one that is refused on either side, the empty and the full case.
 */
public final class PromiseBounds {
    private static final int UNKNOWN = -1, OUTSIDE = -2, STATE = -3, FULL = -4, NONE = -9;
    /** Numbers that are far off; of some the low bits look like ones that are taken. */
    private static final int[] FAR = {Integer.MIN_VALUE, Integer.MIN_VALUE + 1, -256, -32, -9, -2, 16, 32, 33, 64,
        256, 257, 1 << 16, 1 << 30, Integer.MAX_VALUE - 1, Integer.MAX_VALUE};
    private static final Sentences S = new Sentences();

    public static void main(String[] args) {
        newObject();
        text();
        machines();
        edge();
        turn();
        end();
        undo();
        takesAndAfter();
        many();
        least();
        follows();
        search();
        mended();
        judge();
        seen();
        share();
        lost();
        seed();
        keep();
        count();
        S.end();
    }

    private static WordsWithin made(String text) {
        return Look.made(text);
    }

    private static void newObject() {
        S.of("Promise 1", "Two machines of one state each.");
        WordsWithin x = new WordsWithin();
        int[] counts = {0, 1, 1, 0, 0, 0, 0, 0, 0};
        for (int what = 0; what <= 8; what++) {
            S.due("count(" + what + ")", x.count(what), counts[what]);
        }
        for (int machine = 0; machine < 2; machine++) {
            for (int by = 1; by <= 2; by++) {
                S.due("edge(" + machine + ", 0, " + by + ", 0)", x.edge(machine, 0, by, 0), 0);
                S.due("edge(" + machine + ", 1, " + by + ", 0)", x.edge(machine, 1, by, 0), UNKNOWN);
                S.due("edge(" + machine + ", 0, " + by + ", 1)", x.edge(machine, 0, by, 1), UNKNOWN);
            }
            S.due("takes(" + machine + ", 0)", x.takes(machine, 0), 0);
            S.due("leftOut(" + machine + ", 0)", x.leftOut(machine, 0), 0);
        }
        S.due("within()", x.within(), 1);
        S.due("missing(0)", x.missing(0), NONE);
        S.due("fault()", x.fault(), 0);
        S.due("machines()", x.machines(), STATE);
        S.due("undo()", x.undo(), STATE);
        S.due("again(0)", x.again(0), STATE);
        S.due("again(1)", x.again(1), STATE);
        S.due("share(0, true)", x.share(0, true), STATE);
        S.due("lost(10, true)", x.lost(10, true), 1);
        S.due("many(9, 0)", x.many(9, 0), 0);
        S.due("drawn(20)", x.drawn(20), 0);
    }

    private static void text() {
        S.of("Promise 2", "A letter (0 to 255) comes behind THE TEXT: how long it is.");
        WordsWithin x = new WordsWithin();
        S.due("write(-1)", x.write(-1), OUTSIDE);
        S.due("write(0)", x.write(0), 1);
        S.due("write(255)", x.write(255), 2);
        S.due("write(256)", x.write(256), OUTSIDE);
        S.due("write('W' + 256)", x.write('W' + 256), OUTSIDE);
        S.due("write('W' - 256)", x.write('W' - 256), OUTSIDE);
        S.due("write(least)", x.write(Integer.MIN_VALUE), OUTSIDE);
        S.due("write(greatest)", x.write(Integer.MAX_VALUE), OUTSIDE);
        S.due("count(0)", x.count(0), 2);
        for (int letter = 0; letter < 256; letter++) {
            S.due("write(" + letter + ") as the first", new WordsWithin().write(letter), 1);
        }

        S.of("Promise 2", "OUTSIDE; FULL: there are 80.");
        for (int length = 3; length <= 80; length++) {
            S.due("write('p')", x.write('p'), length);
        }
        S.due("write('p') as the 81st", x.write('p'), FULL);
        S.due("write(0) as the 81st", x.write(0), FULL);
        S.due("write(255) as the 81st", x.write(255), FULL);
        S.due("write(256) as the 81st", x.write(256), OUTSIDE);
        S.due("write(-1) as the 81st", x.write(-1), OUTSIDE);
        S.due("count(0)", x.count(0), 80);

        S.of("Promise 3", "THE TEXT is empty: how long it was.");
        S.due("wipe() of 80", x.wipe(), 80);
        S.due("count(0)", x.count(0), 0);
        S.due("fault()", x.fault(), 0);
        S.due("wipe() of none", x.wipe(), 0);
        S.due("write('W')", x.write('W'), 1);
        S.due("fault()", x.fault(), 1);
        S.due("wipe() of one", x.wipe(), 1);
        WordsWithin y = made("W21p0a1P1");
        y.wipe();
        S.due("count(3): the MACHINES stay", y.count(3), 1);
        S.due("count(5)", y.count(5), 2);
        S.due("machines() of what is wiped", y.machines(), STATE);

        S.of("Promise 4", "FAULT; NONE.");
        Look.write(y, "W11");
        S.due("fault()", y.fault(), NONE);
        S.due("count(1): it is told only", y.count(1), 2);
        S.due("count(0)", y.count(0), 3);
        y.write('P');
        S.due("fault()", y.fault(), 4);
        y.write('P');
        S.due("fault()", y.fault(), 4);
        S.due("fault() of none", new WordsWithin().fault(), 0);
    }

    private static void machines() {
        S.of("Promise 5", "(THE ROW of ACTS is empty, what was kept is gone; SEEN, THE SEED stay)");
        WordsWithin x = made("W11");
        x.see(0, 0);
        x.see(1, 0);
        x.seed(-5);
        x.keep(0);
        x.keep(1);
        x.end(0, 0);
        x.turn(1, 0, 2, 0);
        S.due("count(7)", x.count(7), 2);
        x.wipe();
        Look.write(x, "W23p1b0q1a2Q2");
        S.due("machines()", x.machines(), 2);
        S.due("count(7)", x.count(7), 0);
        S.due("undo()", x.undo(), STATE);
        S.due("again(0)", x.again(0), STATE);
        S.due("again(1)", x.again(1), STATE);
        S.due("count(8)", x.count(8), 2);
        S.due("which(): both are seen yet", x.which(), 3 + 16 * 1);
        S.due("seed(0)", x.seed(0), -5);
        S.due("count(5): ENDS are as told", x.count(5), 0);
        S.due("count(6)", x.count(6), 4);
        S.due("edge(1, 0, 2, 0): EDGES are as told", x.edge(1, 0, 2, 0), 0);

        S.of("Promise 5", "how many EDGES both have");
        S.due("machines() of none", made("W45").machines(), 0);
        S.due("machines() of both", made("W11p0a0p0b0q0a0q0b0").machines(), 4);
        S.due("machines() of one", made("W12q0a0q1a0q0a1P0Q1").machines(), 3);

        S.of("Promise 5", "STATE: a FAULT.");
        for (String text : new String[] {"", "W", "W1", "W51", "W11p", "W11p0", "W11p0a", "W11P", "W11P0P0", "W11x"}) {
            WordsWithin y = new WordsWithin();
            Look.write(y, text);
            S.due("machines() of " + text, y.machines(), STATE);
        }
    }

    private static void edge() {
        S.of("Promise 6", "1 if there is an EDGE, 0.");
        WordsWithin x = made("W45p3b3p0a0q4b4q0a0");
        S.due("edge(0, 0, 1, 0)", x.edge(0, 0, 1, 0), 1);
        S.due("edge(0, 3, 2, 3)", x.edge(0, 3, 2, 3), 1);
        S.due("edge(1, 0, 1, 0)", x.edge(1, 0, 1, 0), 1);
        S.due("edge(1, 4, 2, 4)", x.edge(1, 4, 2, 4), 1);
        S.due("edge(0, 3, 1, 3)", x.edge(0, 3, 1, 3), 0);
        S.due("edge(1, 4, 2, 3)", x.edge(1, 4, 2, 3), 0);
        S.due("edge(1, 3, 2, 3)", x.edge(1, 3, 2, 3), 0);

        S.of("Promise 6", "UNKNOWN: machine, from, by, to.");
        S.due("edge(-1, 0, 1, 0)", x.edge(-1, 0, 1, 0), UNKNOWN);
        S.due("edge(2, 0, 1, 0)", x.edge(2, 0, 1, 0), UNKNOWN);
        S.due("edge(0, -1, 1, 0)", x.edge(0, -1, 1, 0), UNKNOWN);
        S.due("edge(0, 4, 1, 0)", x.edge(0, 4, 1, 0), UNKNOWN);
        S.due("edge(1, -1, 1, 0)", x.edge(1, -1, 1, 0), UNKNOWN);
        S.due("edge(1, 5, 1, 0)", x.edge(1, 5, 1, 0), UNKNOWN);
        S.due("edge(0, 0, 0, 0)", x.edge(0, 0, 0, 0), UNKNOWN);
        S.due("edge(0, 0, 3, 0)", x.edge(0, 0, 3, 0), UNKNOWN);
        S.due("edge(0, 0, 1, -1)", x.edge(0, 0, 1, -1), UNKNOWN);
        S.due("edge(0, 0, 1, 4)", x.edge(0, 0, 1, 4), UNKNOWN);
        S.due("edge(1, 0, 1, -1)", x.edge(1, 0, 1, -1), UNKNOWN);
        S.due("edge(1, 0, 1, 5)", x.edge(1, 0, 1, 5), UNKNOWN);
        for (int far : FAR) {
            S.due("edge(" + far + ", 0, 1, 0)", x.edge(far, 0, 1, 0), UNKNOWN);
            S.due("edge(0, " + far + ", 1, 0)", x.edge(0, far, 1, 0), UNKNOWN);
            S.due("edge(0, 0, " + far + ", 0)", x.edge(0, 0, far, 0), UNKNOWN);
            S.due("edge(1, 0, 1, " + far + ")", x.edge(1, 0, 1, far), UNKNOWN);
        }
    }

    private static void turn() {
        S.of("Promise 7", "An EDGE is TURNED: 1 if it is there then, 0.");
        WordsWithin x = made("W45p3b3");
        int[][] edges = {{0, 0, 1, 0}, {0, 3, 2, 0}, {0, 0, 2, 3}, {1, 0, 1, 0}, {1, 4, 2, 4}, {1, 4, 1, 0}};
        for (int[] e : edges) {
            S.due("turn(), it was not there", x.turn(e[0], e[1], e[2], e[3]), 1);
            S.due("edge()", x.edge(e[0], e[1], e[2], e[3]), 1);
        }
        S.due("count(3)", x.count(3), 4);
        S.due("count(4)", x.count(4), 3);
        S.due("turn(0, 3, 2, 3), it was there", x.turn(0, 3, 2, 3), 0);
        S.due("turn(1, 4, 2, 4), it was there", x.turn(1, 4, 2, 4), 0);
        S.due("count(3)", x.count(3), 3);
        S.due("count(4)", x.count(4), 2);
        S.due("count(7)", x.count(7), 8);
        allEdges();

        S.of("Promise 7", "UNKNOWN: machine, from, by, to.");
        int[][] none = {{-1, 0, 1, 0}, {2, 0, 1, 0}, {0, -1, 1, 0}, {0, 4, 1, 0}, {1, -1, 1, 0}, {1, 5, 1, 0},
            {0, 0, 0, 0}, {0, 0, 3, 0}, {1, 0, 0, 0}, {1, 0, 3, 0}, {0, 0, 1, -1}, {0, 0, 1, 4}, {1, 0, 1, -1},
            {1, 0, 1, 5}};
        for (int[] e : none) {
            S.due("turn(" + e[0] + ", " + e[1] + ", " + e[2] + ", " + e[3] + ")", x.turn(e[0], e[1], e[2], e[3]),
                UNKNOWN);
        }
        for (int far : FAR) {
            S.due("turn(" + far + ", 0, 1, 0)", x.turn(far, 0, 1, 0), UNKNOWN);
            S.due("turn(0, " + far + ", 1, 0)", x.turn(0, far, 1, 0), UNKNOWN);
            S.due("turn(0, 0, " + far + ", 0)", x.turn(0, 0, far, 0), UNKNOWN);
            S.due("turn(1, 0, 1, " + far + ")", x.turn(1, 0, 1, far), UNKNOWN);
        }
        S.due("count(7)", x.count(7), 8);
    }

    /** All EDGES that there can be: 32 and 50. */
    private static void allEdges() {
        WordsWithin y = made("W45");
        for (int machine = 0; machine < 2; machine++) {
            int states = 4 + machine;
            for (int at = 0; at < states * states * 2; at++) {
                S.due("turn()", y.turn(machine, at / states / 2, at / states % 2 + 1, at % states), 1);
            }
            S.due("count()", y.count(3 + machine), machine == 0 ? 32 : 50);
        }
        S.due("keep(0)", y.keep(0), 82);
        S.due("after(0, 1)", y.after(0, 1), 15);
        S.due("after(1, 1)", y.after(1, 1), 31);
    }

    private static void end() {
        S.of("Promise 8", "An END is TURNED: 1 if it is one then, 0.");
        WordsWithin x = made("W45P0");
        S.due("end(0, 0), it was one", x.end(0, 0), 0);
        S.due("end(0, 0), it was none", x.end(0, 0), 1);
        S.due("end(0, 3)", x.end(0, 3), 1);
        S.due("end(1, 0)", x.end(1, 0), 1);
        S.due("end(1, 4)", x.end(1, 4), 1);
        S.due("count(5)", x.count(5), 9);
        S.due("count(6)", x.count(6), 17);
        S.due("end(1, 4)", x.end(1, 4), 0);
        S.due("count(6)", x.count(6), 1);
        S.due("count(7)", x.count(7), 6);

        S.of("Promise 8", "UNKNOWN: machine, state.");
        int[][] none = {{-1, 0}, {2, 0}, {0, -1}, {0, 4}, {1, -1}, {1, 5}};
        for (int[] e : none) {
            S.due("end(" + e[0] + ", " + e[1] + ")", x.end(e[0], e[1]), UNKNOWN);
        }
        for (int far : FAR) {
            S.due("end(" + far + ", 0)", x.end(far, 0), UNKNOWN);
            S.due("end(0, " + far + ")", x.end(0, far), UNKNOWN);
            S.due("end(1, " + far + ")", x.end(1, far), UNKNOWN);
        }
        S.due("count(7)", x.count(7), 6);
    }

    private static void undo() {
        S.of("Promise 9", "The last ACT is undone: how many are left.");
        WordsWithin x = made("W23p0a1Q2");
        x.turn(0, 0, 1, 1);
        x.end(1, 2);
        x.turn(1, 2, 2, 0);
        S.due("undo()", x.undo(), 2);
        S.due("edge(1, 2, 2, 0)", x.edge(1, 2, 2, 0), 0);
        S.due("count(6)", x.count(6), 0);
        S.due("undo()", x.undo(), 1);
        S.due("count(6)", x.count(6), 4);
        S.due("edge(0, 0, 1, 1)", x.edge(0, 0, 1, 1), 0);
        S.due("undo()", x.undo(), 0);
        S.due("edge(0, 0, 1, 1)", x.edge(0, 0, 1, 1), 1);
        // each EDGE and END of the last STATES is found again
        WordsWithin y = made("W45");
        y.turn(0, 3, 2, 3);
        y.turn(1, 4, 2, 4);
        y.end(0, 3);
        y.end(1, 4);
        y.turn(1, 0, 1, 0);
        y.end(1, 0);
        for (int left = 5; left >= 0; left--) {
            S.due("undo()", y.undo(), left);
        }
        for (int what = 3; what <= 6; what++) {
            S.due("count(" + what + ")", y.count(what), 0);
        }

        S.of("Promise 9", "STATE: there is none.");
        S.due("undo() of none left", x.undo(), STATE);
        S.due("undo() of none left", y.undo(), STATE);
        S.due("undo() at first", new WordsWithin().undo(), STATE);
        S.due("undo() behind machines()", made("W11").undo(), STATE);
    }

    private static void takesAndAfter() {
        // MACHINE 0 takes all words; MACHINE 1 is in all STATES by each letter
        WordsWithin x = made("W15p0a0p0b0P0q0a0q0a1q0a2q0a3q0a4Q4");
        S.of("Promise 10", "1 if a MACHINE TAKES a WORD, 0.");
        S.due("takes(0, 0)", x.takes(0, 0), 1);
        S.due("takes(1, 0)", x.takes(1, 0), 0);
        S.due("takes(1, 1)", x.takes(1, 1), 1);
        S.due("takes(1, 2)", x.takes(1, 2), 0);
        S.due("takes(1, 111111111)", x.takes(1, 111111111), 1);
        S.due("takes(1, 211111111)", x.takes(1, 211111111), 0);
        S.due("takes(1, 111111112)", x.takes(1, 111111112), 0);
        S.due("takes(0, 222222222)", x.takes(0, 222222222), 1);

        S.of("Promise 10", "UNKNOWN: machine; OUTSIDE: word.");
        S.due("takes(-1, 0)", x.takes(-1, 0), UNKNOWN);
        S.due("takes(2, 0)", x.takes(2, 0), UNKNOWN);
        S.due("takes(0, -1)", x.takes(0, -1), OUTSIDE);
        S.due("takes(0, 3)", x.takes(0, 3), OUTSIDE);
        S.due("takes(0, 10)", x.takes(0, 10), OUTSIDE);
        S.due("takes(0, 222222223)", x.takes(0, 222222223), OUTSIDE);
        S.due("takes(0, 1111111111)", x.takes(0, 1111111111), OUTSIDE);
        S.due("takes(2, 3)", x.takes(2, 3), UNKNOWN);

        S.of("Promise 11", "STATES to which a WORD leads in a MACHINE from STATE 0, as bits.");
        S.due("after(0, 0)", x.after(0, 0), 1);
        S.due("after(1, 0)", x.after(1, 0), 1);
        S.due("after(1, 1)", x.after(1, 1), 31);
        S.due("after(1, 2)", x.after(1, 2), 0);
        S.due("after(1, 21)", x.after(1, 21), 0);
        S.due("after(1, 111111111)", x.after(1, 111111111), 31);
        S.due("after(0, 222222222)", x.after(0, 222222222), 1);
        S.due("after(0, 12)", made("W41p0a3p3b1p3b2").after(0, 12), 6);
        S.due("after(0, 1)", made("W41p0a3p3b1p3b2").after(0, 1), 8);
        S.due("after(0, 121)", made("W41p0a3p3b1p3b2").after(0, 121), 0);

        S.of("Promise 11", "UNKNOWN; OUTSIDE.");
        S.due("after(-1, 0)", x.after(-1, 0), UNKNOWN);
        S.due("after(2, 0)", x.after(2, 0), UNKNOWN);
        S.due("after(1, -1)", x.after(1, -1), OUTSIDE);
        S.due("after(1, 3)", x.after(1, 3), OUTSIDE);
        S.due("after(1, 20)", x.after(1, 20), OUTSIDE);
        S.due("after(1, 1111111111)", x.after(1, 1111111111), OUTSIDE);
        S.due("after(2, 3)", x.after(2, 3), UNKNOWN);
        for (int far : FAR) {
            S.due("takes(" + far + ", 0)", x.takes(far, 0), UNKNOWN);
            S.due("after(" + far + ", 0)", x.after(far, 0), UNKNOWN);
            S.due("takes(0, " + far + ")", x.takes(0, far), OUTSIDE);
            S.due("after(0, " + far + ")", x.after(0, far), OUTSIDE);
        }
    }

    private static void many() {
        S.of("Promise 12", "How many WORDS of n letters (0 to 9) MACHINE 0 TAKES (what = 0), MACHINE 1 (1), both (2),"
            + " MACHINE 0 alone (3).");
        // MACHINE 0 takes all; MACHINE 1 those with a b
        WordsWithin x = made("W12p0a0p0b0P0q0a0q0b1q1a1q1b1Q1");
        for (int n = 0; n <= 9; n++) {
            int all = 1 << n;
            S.due("many(" + n + ", 0)", x.many(n, 0), all);
            S.due("many(" + n + ", 1)", x.many(n, 1), all - 1);
            S.due("many(" + n + ", 2)", x.many(n, 2), all - 1);
            S.due("many(" + n + ", 3)", x.many(n, 3), 1);
        }
        // those of more letters, that were asked ahead, are not told
        for (int n = 9; n >= 0; n--) {
            S.due("many(" + n + ", 0) behind more letters", x.many(n, 0), 1 << n);
        }
        // a WORD with two ways is one WORD
        S.due("many(1, 0)", made("W31p0a1p0a2P1P2").many(1, 0), 1);
        // MACHINE 1 alone is not told
        S.due("many(2, 3)", made("W11q0a0q0b0Q0").many(2, 3), 0);
        S.due("many(2, 2)", made("W11q0a0q0b0Q0").many(2, 2), 0);
        S.due("many(2, 1)", made("W11q0a0q0b0Q0").many(2, 1), 4);

        S.of("Promise 12", "OUTSIDE: n, what.");
        S.due("many(-1, 0)", x.many(-1, 0), OUTSIDE);
        S.due("many(10, 0)", x.many(10, 0), OUTSIDE);
        S.due("many(0, -1)", x.many(0, -1), OUTSIDE);
        S.due("many(0, 4)", x.many(0, 4), OUTSIDE);
        S.due("many(10, 4)", x.many(10, 4), OUTSIDE);
        for (int far : FAR) {
            S.due("many(" + far + ", 0)", x.many(far, 0), OUTSIDE);
            S.due("many(0, " + far + ")", x.many(0, far), OUTSIDE);
        }
    }

    private static void least() {
        S.of("Promise 13", "1 if it is WITHIN, 0.");
        WordsWithin within = made("W11p0a0P0q0a0q0b0Q0");
        WordsWithin not = made("W11p0a0p0b0P0q0a0Q0");
        S.due("within()", within.within(), 1);
        S.due("within()", not.within(), 0);

        S.of("Promise 14", "Of MISSING how many letters (k = 0), the letter k (1 to 200: 1 a, 2 b; NONE: it has not so many)");
        WordsWithin x = made("W31p0a1p1b2P2");
        S.due("missing(0)", x.missing(0), 2);
        S.due("missing(1)", x.missing(1), 1);
        S.due("missing(2)", x.missing(2), 2);
        S.due("missing(3)", x.missing(3), NONE);
        S.due("missing(200)", x.missing(200), NONE);
        S.due("missing(0) of no letters", made("W11P0").missing(0), 0);
        S.due("missing(1) of no letters", made("W11P0").missing(1), NONE);
        S.due("missing(200) of no letters", made("W11P0").missing(200), NONE);

        S.of("Promise 14", "NONE: it is WITHIN.");
        S.due("missing(0)", within.missing(0), NONE);
        S.due("missing(1)", within.missing(1), NONE);
        S.due("missing(200)", within.missing(200), NONE);

        S.of("Promise 14", "OUTSIDE: k.");
        for (WordsWithin y : new WordsWithin[] {x, within}) {
            S.due("missing(-1)", y.missing(-1), OUTSIDE);
            S.due("missing(201)", y.missing(201), OUTSIDE);
            S.due("missing(least)", y.missing(Integer.MIN_VALUE), OUTSIDE);
            S.due("missing(greatest)", y.missing(Integer.MAX_VALUE), OUTSIDE);
        }

        S.of("Promise 15", "Of LEFT OUT how many letters (k = 0), the letter k (1 to 200)");
        // b is the least one for both of 'not'; of all but bb the letters are 2, 2
        S.due("leftOut(1, 0)", not.leftOut(1, 0), 1);
        S.due("leftOut(1, 1)", not.leftOut(1, 1), 2);
        S.due("leftOut(1, 2)", not.leftOut(1, 2), NONE);
        S.due("leftOut(1, 200)", not.leftOut(1, 200), NONE);
        WordsWithin z = made("W14q0a3q0b1q1a3q1b2q2a3q2b3q3a3q3b3Q0Q1Q3P0");
        S.due("leftOut(1, 0)", z.leftOut(1, 0), 2);
        S.due("leftOut(1, 2)", z.leftOut(1, 2), 2);
        S.due("leftOut(1, 3)", z.leftOut(1, 3), NONE);
        S.due("leftOut(0, 0)", z.leftOut(0, 0), 1);
        S.due("leftOut(0, 1)", z.leftOut(0, 1), 1);
        S.due("leftOut(0, 0) of no letters", made("W11").leftOut(0, 0), 0);
        S.due("leftOut(0, 1) of no letters", made("W11").leftOut(0, 1), NONE);

        S.of("Promise 15", "NONE (as of MISSING; the MACHINE TAKES all WORDS).");
        S.due("leftOut(0, 0)", not.leftOut(0, 0), NONE);
        S.due("leftOut(0, 1)", not.leftOut(0, 1), NONE);
        S.due("leftOut(0, 200)", not.leftOut(0, 200), NONE);

        S.of("Promise 15", "UNKNOWN: machine; OUTSIDE: k.");
        S.due("leftOut(-1, 0)", z.leftOut(-1, 0), UNKNOWN);
        S.due("leftOut(2, 0)", z.leftOut(2, 0), UNKNOWN);
        S.due("leftOut(0, -1)", z.leftOut(0, -1), OUTSIDE);
        S.due("leftOut(0, 201)", z.leftOut(0, 201), OUTSIDE);
        S.due("leftOut(1, -1)", z.leftOut(1, -1), OUTSIDE);
        S.due("leftOut(1, 201)", z.leftOut(1, 201), OUTSIDE);
        S.due("leftOut(0, 201), it takes all", not.leftOut(0, 201), OUTSIDE);
        S.due("leftOut(2, 201)", z.leftOut(2, 201), UNKNOWN);
        S.due("leftOut(least, -1)", z.leftOut(Integer.MIN_VALUE, -1), UNKNOWN);
        S.due("leftOut(1, greatest)", z.leftOut(1, Integer.MAX_VALUE), OUTSIDE);
    }

    private static void follows() {
        S.of("Promise 16", "1 if a STATE FOLLOWS another one, 0.");
        WordsWithin x = made("W45P3Q4");
        S.due("follows(0, 3, 1, 4)", x.follows(0, 3, 1, 4), 1);
        S.due("follows(1, 4, 0, 3)", x.follows(1, 4, 0, 3), 1);
        S.due("follows(0, 3, 1, 3)", x.follows(0, 3, 1, 3), 0);
        S.due("follows(0, 3, 0, 0)", x.follows(0, 3, 0, 0), 0);
        S.due("follows(1, 4, 1, 0)", x.follows(1, 4, 1, 0), 0);
        S.due("follows(1, 0, 1, 4)", x.follows(1, 0, 1, 4), 1);
        S.due("follows(0, 0, 0, 3)", x.follows(0, 0, 0, 3), 1);
        S.due("follows(0, 0, 0, 0)", x.follows(0, 0, 0, 0), 1);

        S.of("Promise 16", "UNKNOWN: machine, state, other (a MACHINE), its state.");
        int[][] none = {{-1, 0, 0, 0}, {2, 0, 0, 0}, {0, -1, 0, 0}, {0, 4, 0, 0}, {1, -1, 0, 0}, {1, 5, 0, 0},
            {0, 0, -1, 0}, {0, 0, 2, 0}, {0, 0, 0, -1}, {0, 0, 0, 4}, {0, 0, 1, -1}, {0, 0, 1, 5}, {1, 0, 0, 4},
            {1, 4, 1, 5}};
        for (int[] e : none) {
            S.due("follows(" + e[0] + ", " + e[1] + ", " + e[2] + ", " + e[3] + ")",
                x.follows(e[0], e[1], e[2], e[3]), UNKNOWN);
        }
        for (int far : FAR) {
            S.due("follows(" + far + ", 0, 0, 0)", x.follows(far, 0, 0, 0), UNKNOWN);
            S.due("follows(0, " + far + ", 0, 0)", x.follows(0, far, 0, 0), UNKNOWN);
            S.due("follows(0, 0, " + far + ", 0)", x.follows(0, 0, far, 0), UNKNOWN);
            S.due("follows(0, 0, 1, " + far + ")", x.follows(0, 0, 1, far), UNKNOWN);
        }
    }

    private static void search() {
        S.of("Promise 17", "A SEARCH: 1 if it ends without a BAD PAIR, 0 (what = 0), how many PAIRS were TAKEN (1),"
            + " are KEPT in the end (2), were PASSED OVER, COVERED ones too (3), are GONE (4).");
        // LEAST: (0, 0) GONE by (0, none) by a; (1, 0) by b, GONE by (1, none); one is PASSED OVER
        WordsWithin x = made("W21p0a0p0b1q0b0");
        int[] want = {1, 3, 2, 1, 2};
        for (int what = 0; what <= 4; what++) {
            S.due("search(1, " + what + ")", x.search(1, what), want[what]);
        }
        int[] wide = {1, 2, 1, 3, 1};
        for (int what = 0; what <= 4; what++) {
            S.due("search(2, " + what + ")", x.search(2, what), wide[what]);
        }

        S.of("Promise 17", "OUTSIDE: mode, what.");
        S.due("search(-1, 0)", x.search(-1, 0), OUTSIDE);
        S.due("search(3, 0)", x.search(3, 0), OUTSIDE);
        S.due("search(0, -1)", x.search(0, -1), OUTSIDE);
        S.due("search(0, 5)", x.search(0, 5), OUTSIDE);
        S.due("search(2, 5)", x.search(2, 5), OUTSIDE);

        S.of("Promise 18", "Of PAIRS that are KEPT in the end the one of a number (from 0, as they came):"
            + " 100 times p, and S as bits.");
        S.due("kept(1, 0)", x.kept(1, 0), 0);
        S.due("kept(1, 1)", x.kept(1, 1), 100);
        // the greatest one there is: STATE 3, all five STATES
        WordsWithin y = made("W45p0a3q0a0q0a1q0a2q0a3q0a4");
        S.due("kept(0, 0)", y.kept(0, 0), 1);
        S.due("kept(0, 1)", y.kept(0, 1), 331);

        S.of("Promise 18", "OUTSIDE: mode; UNKNOWN: pair.");
        S.due("kept(-1, 0)", x.kept(-1, 0), OUTSIDE);
        S.due("kept(3, 0)", x.kept(3, 0), OUTSIDE);
        S.due("kept(1, -1)", x.kept(1, -1), UNKNOWN);
        S.due("kept(1, 2)", x.kept(1, 2), UNKNOWN);
        S.due("kept(2, 1)", x.kept(2, 1), UNKNOWN);
        S.due("kept(2, 0) of none", new WordsWithin().kept(2, 0), UNKNOWN);
        S.due("kept(3, -1)", x.kept(3, -1), OUTSIDE);
        S.due("kept(-1, 2)", x.kept(-1, 2), OUTSIDE);

        S.of("Promise 19", "Of FOUND how many letters (k = 0), the letter k (1 to 200)");
        WordsWithin z = made("W31p0b1p1a2P2");
        for (int mode = 0; mode < 3; mode++) {
            S.due("found(" + mode + ", 0)", z.found(mode, 0), 2);
            S.due("found(" + mode + ", 1)", z.found(mode, 1), 2);
            S.due("found(" + mode + ", 2)", z.found(mode, 2), 1);
        }

        S.of("Promise 19", "NONE (as of MISSING; no PAIR was BAD).");
        for (int mode = 0; mode < 3; mode++) {
            S.due("found(" + mode + ", 3)", z.found(mode, 3), NONE);
            S.due("found(" + mode + ", 200)", z.found(mode, 200), NONE);
            S.due("found(" + mode + ", 0)", x.found(mode, 0), NONE);
            S.due("found(" + mode + ", 1)", x.found(mode, 1), NONE);
            S.due("found(" + mode + ", 200)", x.found(mode, 200), NONE);
        }

        S.of("Promise 19", "OUTSIDE: mode, k.");
        for (WordsWithin w : new WordsWithin[] {x, z}) {
            S.due("found(-1, 0)", w.found(-1, 0), OUTSIDE);
            S.due("found(3, 0)", w.found(3, 0), OUTSIDE);
            S.due("found(0, -1)", w.found(0, -1), OUTSIDE);
            S.due("found(0, 201)", w.found(0, 201), OUTSIDE);
            S.due("found(2, 201)", w.found(2, 201), OUTSIDE);
        }
        for (int far : FAR) {
            S.due("search(" + far + ", 0)", x.search(far, 0), OUTSIDE);
            S.due("search(0, " + far + ")", x.search(0, far), OUTSIDE);
            S.due("kept(" + far + ", 0)", x.kept(far, 0), OUTSIDE);
            S.due("kept(1, " + far + ")", x.kept(1, far), UNKNOWN);
            S.due("found(" + far + ", 0)", x.found(far, 0), OUTSIDE);
        }
    }

    private static void mended() {
        S.of("Promise 20", "MENDED: how many EDGES of a MACHINE do so (what = 0),"
            + " the first as 100 times from, 10 times by, and to (1; the least number)");
        // baa is missing: each of its EDGES does so; the least is 0 b 1
        WordsWithin x = made("W45p0b1p1a2p2a3P3q0b4q4a3Q2");
        S.due("mended(0, 0)", x.mended(0, 0), 3);
        S.due("mended(0, 1)", x.mended(0, 1), 21);
        S.due("mended(1, 0)", x.mended(1, 0), 1);
        S.due("mended(1, 1)", x.mended(1, 1), 312);
        // b alone is missing, 0 is the END: b from 0 to 0
        WordsWithin y = made("W22p0b1P1Q0");
        S.due("mended(1, 0)", y.mended(1, 0), 1);
        S.due("mended(1, 1)", y.mended(1, 1), 20);
        // both STATES are ENDS: to 0 or to 1
        y.end(1, 1);
        S.due("mended(1, 0)", y.mended(1, 0), 2);
        S.due("mended(1, 1)", y.mended(1, 1), 20);
        // the last EDGES there are
        WordsWithin z = made("W15p0a0p0b0P0q0a4q0b4q4a0Q0Q4");
        S.due("mended(0, 0)", z.mended(0, 0), 1);
        S.due("mended(0, 1)", z.mended(0, 1), 20);
        S.due("mended(1, 0)", z.mended(1, 0), 2);
        S.due("mended(1, 1)", z.mended(1, 1), 420);

        S.of("Promise 20", "NONE.");
        WordsWithin none = made("W21p0a1p0b1P1Q0");
        WordsWithin within = new WordsWithin();
        for (int machine = 0; machine < 2; machine++) {
            S.due("mended(" + machine + ", 0)", none.mended(machine, 0), 0);
            S.due("mended(" + machine + ", 1)", none.mended(machine, 1), NONE);
            S.due("mended(" + machine + ", 0)", within.mended(machine, 0), 0);
            S.due("mended(" + machine + ", 1)", within.mended(machine, 1), NONE);
        }

        S.of("Promise 20", "UNKNOWN: machine; OUTSIDE.");
        for (WordsWithin w : new WordsWithin[] {x, within}) {
            S.due("mended(-1, 0)", w.mended(-1, 0), UNKNOWN);
            S.due("mended(2, 0)", w.mended(2, 0), UNKNOWN);
            S.due("mended(0, -1)", w.mended(0, -1), OUTSIDE);
            S.due("mended(0, 2)", w.mended(0, 2), OUTSIDE);
            S.due("mended(1, -1)", w.mended(1, -1), OUTSIDE);
            S.due("mended(1, 2)", w.mended(1, 2), OUTSIDE);
            S.due("mended(2, 2)", w.mended(2, 2), UNKNOWN);
            S.due("mended(-1, -1)", w.mended(-1, -1), UNKNOWN);
        }
        for (int far : FAR) {
            S.due("mended(" + far + ", 0)", x.mended(far, 0), UNKNOWN);
            S.due("mended(0, " + far + ")", x.mended(0, far), OUTSIDE);
        }
    }

    private static void judge() {
        S.of("Promise 21", "OUTSIDE: n, row (0 or more, 5 n figures at most).");
        WordsWithin x = new WordsWithin();
        long[][] rows = {{1, -1, OUTSIDE}, {1, 0, 0}, {1, 99999, 0}, {1, 100000, OUTSIDE},
            {2, -1, OUTSIDE}, {2, 0, 0}, {2, 9999999999L, 0}, {2, 10000000000L, OUTSIDE},
            {3, -1, OUTSIDE}, {3, 0, 0}, {3, 999999999999999L, 0}, {3, 1000000000000000L, OUTSIDE},
            {1, Long.MIN_VALUE, OUTSIDE}, {1, Long.MAX_VALUE, OUTSIDE}, {3, Long.MIN_VALUE, OUTSIDE},
            {3, Long.MAX_VALUE, OUTSIDE}, {1, (1L << 32) + 40001, OUTSIDE}, {1, (1L << 32), OUTSIDE},
            {0, 0, OUTSIDE}, {0, 40001, OUTSIDE}, {4, 0, OUTSIDE}, {4, 40001, OUTSIDE}, {-1, 0, OUTSIDE},
            {4, 40001400014000140L, OUTSIDE}, {0, -1, OUTSIDE}, {4, -1, OUTSIDE},
            {1, -40001, OUTSIDE}, {2, 1000000000000000L, OUTSIDE}, {1, 4000140001L, OUTSIDE}};
        for (long[] row : rows) {
            S.due("judge(" + row[0] + ", " + row[1] + ")", x.judge((int) row[0], row[1]), row[2]);
        }
        for (int far : FAR) {
            S.due("judge(" + far + ", 40001)", x.judge(far, 40001), OUTSIDE);
        }
        S.due("judge(1, 40001)", x.judge(1, 40001), NONE);
        S.due("judge(2, 4000140001)", x.judge(2, 4000140001L), NONE);
        S.due("judge(3, 400014000140001)", x.judge(3, 400014000140001L), NONE);
    }

    private static void seen() {
        S.of("Promise 22", "SEEN: how many there are.");
        WordsWithin x = made("W22p0a1P1");
        S.due("see(0, 0)", x.see(0, 0), 1);
        S.due("see(222222222, 0)", x.see(222222222, 0), 2);
        S.due("see(1, 1)", x.see(1, 1), 3);
        S.due("count(8)", x.count(8), 3);

        S.of("Promise 22", "OUTSIDE: word, was (0, 1); FULL: 6.");
        S.due("see(-1, 0)", x.see(-1, 0), OUTSIDE);
        S.due("see(3, 0)", x.see(3, 0), OUTSIDE);
        S.due("see(10, 0)", x.see(10, 0), OUTSIDE);
        S.due("see(222222223, 0)", x.see(222222223, 0), OUTSIDE);
        S.due("see(1111111111, 0)", x.see(1111111111, 0), OUTSIDE);
        S.due("see(1, -1)", x.see(1, -1), OUTSIDE);
        S.due("see(1, 2)", x.see(1, 2), OUTSIDE);
        for (int far : FAR) {
            S.due("see(" + far + ", 0)", x.see(far, 0), OUTSIDE);
            S.due("see(1, " + far + ")", x.see(1, far), OUTSIDE);
        }
        S.due("count(8)", x.count(8), 3);
        S.due("see(1, 1) as the fourth", x.see(1, 1), 4);
        S.due("see(1, 1) as the fifth", x.see(1, 1), 5);
        S.due("see(1, 1) as the sixth", x.see(1, 1), 6);
        S.due("see(1, 1) as the seventh", x.see(1, 1), FULL);
        S.due("see(3, 1) as the seventh", x.see(3, 1), OUTSIDE);
        S.due("see(1, 2) as the seventh", x.see(1, 2), OUTSIDE);
        S.due("count(8)", x.count(8), 6);

        S.of("Promise 23", "Nothing is SEEN: how much there was.");
        S.due("unsee() of six", x.unsee(), 6);
        S.due("unsee() of none", x.unsee(), 0);
        S.due("count(8)", x.count(8), 0);
        S.due("which()", x.which(), 3 + 16 * 3);
        S.due("see(1, 1) behind it", x.see(1, 1), 1);
        S.due("unsee() of one", x.unsee(), 1);

        S.of("Promise 24", "WHICH.");
        S.due("which() of nothing", x.which(), 3 + 16 * 3);
        x.see(1, 1);
        S.due("which() of a taken", x.which(), 1);
        x.see(1, 0);
        S.due("which() of what can not be", x.which(), 0);
        S.due("count(8)", x.count(8), 2);
        // a WORD of nine letters, from each STATE of a ring
        WordsWithin y = made("W45p0a1p1a2p2a3p3a0P3q0a1q1a2q2a3q3a4q4a0Q4");
        y.see(111111111, 1);
        S.due("which()", y.which(), 4 + 16 * 1);
    }

    private static void share() {
        S.of("Promise 25", "SHARE.");
        WordsWithin x = made("W25p0a1P1q0a1q0a4Q1Q4Q0");
        int[][] shares = {{0, 0, 1}, {1, 1, 2}, {4, 1, 2}};
        for (int[] s : shares) {
            S.due("share(" + s[0] + ", true)", x.share(s[0], true), s[1]);
            S.due("share(" + s[0] + ", false)", x.share(s[0], false), s[2]);
        }

        WordsWithin all = made("W11p0a0p0b0P0q0a0q0b0Q0");
        S.due("many(9, 2)", all.many(9, 2), 512);
        S.due("share(0, true) behind nine letters", all.share(0, true), 127);

        S.of("Promise 25", "UNKNOWN; STATE: it is no END.");
        S.due("share(2, true)", x.share(2, true), STATE);
        S.due("share(2, false)", x.share(2, false), STATE);
        S.due("share(3, true)", x.share(3, true), STATE);
        for (int state : new int[] {-1, 5}) {
            S.due("share(" + state + ", true)", x.share(state, true), UNKNOWN);
            S.due("share(" + state + ", false)", x.share(state, false), UNKNOWN);
        }
        for (int far : FAR) {
            S.due("share(" + far + ", true)", x.share(far, true), UNKNOWN);
            S.due("share(" + far + ", false)", x.share(far, false), UNKNOWN);
        }
        // a STATE of MACHINE 0 alone is none of MACHINE 1, an END of MACHINE 0 is none of MACHINE 1
        S.due("share(1, true)", made("W41P1Q0").share(1, true), UNKNOWN);
        S.due("share(1, true)", made("W22P1Q0").share(1, true), STATE);
    }

    private static void lost() {
        S.of("Promise 26", "LOST. OUTSIDE: x.");
        WordsWithin x = made("W11P0Q0");
        S.due("lost(-1, true)", x.lost(-1, true), OUTSIDE);
        S.due("lost(-1, false)", x.lost(-1, false), OUTSIDE);
        S.due("lost(0, true)", x.lost(0, true), 1);
        S.due("lost(0, false)", x.lost(0, false), 1);
        S.due("lost(10, true)", x.lost(10, true), 0);
        S.due("lost(10, false)", x.lost(10, false), 1);
        S.due("lost(11, true)", x.lost(11, true), OUTSIDE);
        S.due("lost(11, false)", x.lost(11, false), OUTSIDE);
        for (int far : FAR) {
            S.due("lost(" + far + ", true)", x.lost(far, true), OUTSIDE);
            S.due("lost(" + far + ", false)", x.lost(far, false), OUTSIDE);
        }
    }

    private static void seed() {
        S.of("Promise 27", "THE SEED is v: what it was.");
        WordsWithin x = made("W11p0a0p0b0P0q0a0q0b0Q0");
        S.due("seed(greatest)", x.seed(Long.MAX_VALUE), 0);
        S.due("seed(least)", x.seed(Long.MIN_VALUE), Long.MAX_VALUE);
        S.due("seed(-1)", x.seed(-1), Long.MIN_VALUE);
        S.due("seed(1 << 32)", x.seed(1L << 32), -1);
        S.due("seed(0)", x.seed(0), 1L << 32);
        S.due("seed(0)", x.seed(0), 0);

        S.of("Promise 28", "DRAWN. OUTSIDE: m.");
        S.due("drawn(-1)", x.drawn(-1), OUTSIDE);
        S.due("drawn(0)", x.drawn(0), OUTSIDE);
        S.due("seed(0): it is as it was", x.seed(0), 0);
        S.due("drawn(1)", x.drawn(1), 3);
        S.due("drawn(20)", x.drawn(20), 60);
        long behind = x.seed(0);
        S.must("THE SEED is another one behind 21 times", behind != 0);
        S.due("drawn(21)", x.drawn(21), OUTSIDE);
        for (int far : FAR) {
            if (far != 16) {
                S.due("drawn(" + far + ")", x.drawn(far), OUTSIDE);
            }
        }
        S.due("seed(0): it is as it was", x.seed(0), 0);
    }

    private static void keep() {
        S.of("Promise 29", "They are kept: how many EDGES both have. UNKNOWN.");
        WordsWithin x = made("W11p0a0p0b0q0a0");
        S.due("keep(-1)", x.keep(-1), UNKNOWN);
        S.due("keep(0)", x.keep(0), 3);
        S.due("keep(1)", x.keep(1), 3);
        S.due("keep(2)", x.keep(2), UNKNOWN);
        S.due("keep(0) of none", new WordsWithin().keep(0), 0);
        for (int far : FAR) {
            S.due("keep(" + far + ")", x.keep(far), UNKNOWN);
            S.due("again(" + far + ")", x.again(far), UNKNOWN);
        }

        S.of("Promise 30", "They are as they were kept: how many EDGES both have.");
        x.turn(0, 0, 1, 0);
        x.turn(1, 0, 1, 0);
        x.end(0, 0);
        S.due("keep(1)", x.keep(1), 1);
        S.due("again(0)", x.again(0), 3);
        S.due("count(5)", x.count(5), 0);
        S.due("edge(0, 0, 1, 0)", x.edge(0, 0, 1, 0), 1);
        S.due("again(1)", x.again(1), 1);
        S.due("count(5)", x.count(5), 1);
        S.due("edge(0, 0, 1, 0)", x.edge(0, 0, 1, 0), 0);
        S.due("again(1) once more", x.again(1), 1);

        S.of("Promise 30", "UNKNOWN; STATE: none were kept.");
        WordsWithin y = new WordsWithin();
        S.due("again(-1)", y.again(-1), UNKNOWN);
        S.due("again(0)", y.again(0), STATE);
        S.due("again(1)", y.again(1), STATE);
        S.due("again(2)", y.again(2), UNKNOWN);
        y.keep(1);
        S.due("again(0), the other one was kept", y.again(0), STATE);
        S.due("again(1)", y.again(1), 0);
        y.keep(0);
        Look.write(y, "W11");
        y.machines();
        S.due("again(0), it is gone", y.again(0), STATE);
        S.due("again(1), it is gone", y.again(1), STATE);
        S.due("keep(0)", y.keep(0), 0);
        S.due("again(0)", y.again(0), 0);
        S.due("again(1)", y.again(1), STATE);
    }

    private static void count() {
        S.of("Promise 31", "0 letters of THE TEXT, 1 STATES of MACHINE 0, 2 of MACHINE 1, 3 EDGES of MACHINE 0,"
            + " 4 of MACHINE 1, 5 ENDS of MACHINE 0 (bits), 6 of MACHINE 1 (bits), 7 ACTS in the row, 8 SEEN.");
        WordsWithin x = made("W45p0a1p1a1p2a1q0a0P0P1P2P3Q0Q1Q2Q3Q4");
        x.turn(1, 0, 1, 1);
        x.turn(1, 0, 1, 1);
        x.see(1, 0);
        int[] full = {37, 4, 5, 3, 1, 15, 31, 2, 1};
        for (int what = 0; what <= 8; what++) {
            S.due("count(" + what + ")", x.count(what), full[what]);
        }

        S.of("Promise 31", "OUTSIDE.");
        S.due("count(-1)", x.count(-1), OUTSIDE);
        S.due("count(9)", x.count(9), OUTSIDE);
        for (int far : FAR) {
            S.due("count(" + far + ")", x.count(far), OUTSIDE);
        }
    }
}

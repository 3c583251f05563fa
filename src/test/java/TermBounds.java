/**
 * The boundary cases that "What it is" and "Terms" of the document name, each sentence with a test
 * of its own. The answers are worked out by hand.
 */
public final class TermBounds {
    private static final int UNKNOWN = -1, OUTSIDE = -2, STATE = -3, FULL = -4, NONE = -9;
    private static final Sentences S = new Sentences();

    public static void main(String[] args) {
        use();
        refusals();
        states();
        text();
        parts();
        faults();
        words();
        acts();
        within();
        follows();
        searchBegins();
        searchGoesOn();
        allPairs();
        covered();
        coveredWide();
        mended();
        judgedRows();
        judgedDoings();
        seen();
        shares();
        lost();
        drawn();
        slots();
        S.end();
    }

    private static WordsWithin made(String text) {
        return Look.made(text);
    }

    private static int fault(String text) {
        WordsWithin x = new WordsWithin();
        Look.write(x, text);
        return x.fault();
    }

    private static void fault(String text, int want) {
        S.due("fault() of " + text, fault(text), want);
    }

    // ---- what it is

    private static void use() {
        S.of("What it is", "An object is used for at most 512 calls after it has been made");
        WordsWithin x = new WordsWithin();
        for (int call = 1; call <= 498; call++) {
            S.due("turn(0, 0, 1, 0), call " + call, x.turn(0, 0, 1, 0), call % 2);
        }
        for (int left = 13; left >= 0; left--) {
            S.due("undo(), the last one is call 512", x.undo(), left);
        }
        WordsWithin y = new WordsWithin();
        for (int call = 1; call <= 512; call++) {
            int at = call % 82;
            S.due("write('W') or wipe(), call " + call, at == 0 ? y.wipe() : y.write('W'),
                at == 0 ? 80 : at == 81 ? FULL : at);
        }
        WordsWithin z = new WordsWithin();
        for (int call = 1; call <= 512; call++) {
            int at = call % 8;
            S.due("see(1, 0) or unsee(), call " + call, at == 0 ? z.unsee() : z.see(1, 0),
                at == 0 ? 6 : at == 7 ? FULL : at);
        }
        longUse();
    }

    private static void longUse() {
        WordsWithin x = made("W21p0a1P1q0a0Q0");
        for (int call = 17; call <= 511; call += 3) {
            S.due("keep(), call " + call, x.keep(call % 2), 2);
            S.due("end(0, 1)", x.end(0, 1), 0);
            S.due("again()", x.again(call % 2), 2);
        }
        WordsWithin y = made("W21p0a1P1q0a0Q0");
        for (int call = 17; call <= 512; call++) {
            S.due("machines(), call " + call, y.machines(), 2);
        }
        WordsWithin z = made("W11p0a0p0b0P0");
        for (int call = 15; call + 3 <= 512; call += 4) {
            S.due("drawn(20), call " + call, z.drawn(20), 20);
            S.due("search(2, 0)", z.search(2, 0), 0);
            S.due("missing(0)", z.missing(0), 0);
            S.due("many(9, 0)", z.many(9, 0), 512);
        }
    }

    // ---- refusals

    private static void refusals() {
        S.of("Terms", "NONE is -9.");
        S.due("UNKNOWN", WordsWithin.UNKNOWN, -1);
        S.due("OUTSIDE", WordsWithin.OUTSIDE, -2);
        S.due("STATE", WordsWithin.STATE, -3);
        S.due("FULL", WordsWithin.FULL, -4);
        S.due("NONE", WordsWithin.NONE, -9);
        S.due("missing(0) of none", new WordsWithin().missing(0), -9);

        S.of("Terms", "FRACTIONS are told above (upper = true), below, in least terms");
        // the words a and aa; MACHINE 1 has the ENDS 1 and 2 by a, 1 alone by aa: 1 / 2 and 1
        WordsWithin x = made("W33p0a1p1a2P1P2q0a1q0a2q1a1Q1Q2");
        S.due("share(1, true)", x.share(1, true), 3);
        S.due("share(1, false)", x.share(1, false), 2);
        S.due("share(2, true)", x.share(2, true), 1);
        S.due("share(2, false)", x.share(2, false), 2);
        // END 1 must stay; what becomes of END 2 is all the same: 4 tenths
        S.due("lost(6, true)", x.lost(6, true), 2);
        S.due("lost(6, false)", x.lost(6, false), 5);
        // none is 0 / 1, a whole number is so many / 1
        WordsWithin y = made("W12p0a0P0q0a0Q0Q1");
        S.due("share(1, true)", y.share(1, true), 0);
        S.due("share(1, false)", y.share(1, false), 1);
        S.due("share(0, true)", y.share(0, true), 7);
        S.due("share(0, false)", y.share(0, false), 1);
        S.due("lost(10, true)", y.lost(10, true), 0);
        S.due("lost(10, false)", y.lost(10, false), 1);
        S.due("lost(0, true)", y.lost(0, true), 1);
        S.due("lost(0, false)", y.lost(0, false), 1);

        S.of("Terms", "refusals of them are told likewise");
        S.due("share(2, true)", y.share(2, true), UNKNOWN);
        S.due("share(2, false)", y.share(2, false), UNKNOWN);
        S.due("share(0, true)", x.share(0, true), STATE);
        S.due("share(0, false)", x.share(0, false), STATE);
        S.due("lost(11, true)", x.lost(11, true), OUTSIDE);
        S.due("lost(11, false)", x.lost(11, false), OUTSIDE);
    }

    // ---- part 1

    private static void states() {
        S.of("Terms 1", "MACHINE 0 has STATES 0, 1, .. (1 to 4 of them)");
        fault("W01", 1);
        fault("W11", NONE);
        fault("W41", NONE);
        fault("W51", 1);
        S.due("count(1) of W11", made("W11").count(1), 1);
        S.due("count(1) of W41", made("W41").count(1), 4);
        S.due("end(0, 3) of W41", made("W41").end(0, 3), 1);
        S.due("end(0, 4) of W41", made("W41").end(0, 4), UNKNOWN);
        S.due("end(0, 1) of W15", made("W15").end(0, 1), UNKNOWN);

        S.of("Terms 1", "MACHINE 1 likewise (1 to 5)");
        fault("W10", 2);
        fault("W15", NONE);
        fault("W16", 2);
        S.due("count(2) of W41", made("W41").count(2), 1);
        S.due("count(2) of W15", made("W15").count(2), 5);
        S.due("end(1, 4) of W15", made("W15").end(1, 4), 1);
        S.due("end(1, 5) of W15", made("W15").end(1, 5), UNKNOWN);
        S.due("end(1, 1) of W41", made("W41").end(1, 1), UNKNOWN);

        S.of("Terms 1", "LETTERS are 1 (a) and 2 (b).");
        WordsWithin x = made("W11p0b0");
        S.due("edge(0, 0, 0, 0)", x.edge(0, 0, 0, 0), UNKNOWN);
        S.due("edge(0, 0, 1, 0)", x.edge(0, 0, 1, 0), 0);
        S.due("edge(0, 0, 2, 0)", x.edge(0, 0, 2, 0), 1);
        S.due("edge(0, 0, 3, 0)", x.edge(0, 0, 3, 0), UNKNOWN);

        S.of("Terms 1", "At first each has one STATE, no EDGES, no ENDS.");
        WordsWithin y = new WordsWithin();
        S.due("count(1)", y.count(1), 1);
        S.due("count(2)", y.count(2), 1);
        S.due("count(3)", y.count(3), 0);
        S.due("count(4)", y.count(4), 0);
        S.due("count(5)", y.count(5), 0);
        S.due("count(6)", y.count(6), 0);
        S.due("end(0, 1)", y.end(0, 1), UNKNOWN);
        S.due("end(1, 1)", y.end(1, 1), UNKNOWN);
        S.due("after(0, 0)", y.after(0, 0), 1);
        S.due("after(0, 1)", y.after(0, 1), 0);
        S.due("after(1, 2)", y.after(1, 2), 0);
    }

    private static void text() {
        S.of("Terms 1", "THE TEXT is letters (80 at most).");
        WordsWithin x = new WordsWithin();
        S.due("count(0) at first", x.count(0), 0);
        for (int length = 1; length <= 80; length++) {
            S.due("write('W')", x.write('W'), length);
        }
        S.due("write('W') as the 81st", x.write('W'), FULL);
        S.due("count(0)", x.count(0), 80);

        S.of("Terms 1", "MACHINES are a TEXT: W, a figure (how many STATES MACHINE 0 has), a figure (MACHINE 1)");
        fault("", 0);
        fault("w11", 0);
        fault("V11", 0);
        fault("X11", 0);
        fault("111", 0);
        fault("W", 1);
        fault("W/1", 1);
        fault("W:1", 1);
        fault("Wa", 1);
        fault("W1", 2);
        fault("W1/", 2);
        fault("W1:", 2);
        fault("W1p", 2);
        WordsWithin y = made("W25");
        S.due("count(1) of W25", y.count(1), 2);
        S.due("count(2) of W25", y.count(2), 5);

        S.of("Terms 1", "then PARTS, none or more");
        S.due("machines() of W11", made("W11").machines(), 0);
        S.due("machines() of one PART", made("W11q0a0").machines(), 1);
        StringBuilder most = new StringBuilder("W45");
        for (int from = 0; from < 5; from++) {
            for (int to = 0; to < 4 && most.length() < 79; to++) {
                most.append('q').append(from).append(to % 2 == 0 ? 'a' : 'b').append(to);
            }
        }
        S.due("letters of 19 PARTS", most.length(), 79);
        S.due("machines() of 19 PARTS", made(most.toString()).machines(), 19);
    }

    private static void parts() {
        S.of("Terms 1", "each told once at most");
        fault("W22p0a1p0a1", 10);
        fault("W22q0a1q0a1", 10);
        fault("W22P1P1", 6);
        fault("W22Q1Q1", 6);
        fault("W22p0a1q0a1P1Q0p0b0q1a1p0a1", 26);
        fault("W22P1p0a1Q1P1", 12);
        fault("W22p0a1p0b1p1a1p0a0", NONE);
        fault("W22p0a1q0a1P1Q1", NONE);

        S.of("Terms 1", "p, figure, letter, figure: an EDGE of MACHINE 0, from, by (a or b), to");
        fault("W45p4", 4);
        fault("W45p/", 4);
        fault("W45p:", 4);
        fault("W45p3`", 5);
        fault("W45p3c", 5);
        fault("W45p3A", 5);
        fault("W45p3B", 5);
        fault("W45p31", 5);
        fault("W45p3a4", 6);
        fault("W45p3a/", 6);
        fault("W45p3a3", NONE);
        fault("W45p0b0", NONE);
        WordsWithin x = made("W45p3b1");
        S.due("edge(0, 3, 2, 1)", x.edge(0, 3, 2, 1), 1);
        S.due("count(3)", x.count(3), 1);
        S.due("count(4)", x.count(4), 0);

        S.of("Terms 1", "q likewise: of MACHINE 1");
        fault("W45q5", 4);
        fault("W45q4c", 5);
        fault("W45q4a5", 6);
        fault("W45q4a4", NONE);
        WordsWithin y = made("W45q4a3");
        S.due("edge(1, 4, 1, 3)", y.edge(1, 4, 1, 3), 1);
        S.due("count(3)", y.count(3), 0);
        S.due("count(4)", y.count(4), 1);

        S.of("Terms 1", "P, figure: an END of MACHINE 0");
        fault("W45P4", 4);
        fault("W45P/", 4);
        fault("W45P3", NONE);
        S.due("count(5) of P3", made("W45P3").count(5), 8);
        S.due("count(6) of P3", made("W45P3").count(6), 0);

        S.of("Terms 1", "Q, figure: of MACHINE 1");
        fault("W45Q5", 4);
        fault("W45Qa", 4);
        fault("W45Q4", NONE);
        S.due("count(5) of Q4", made("W45Q4").count(5), 0);
        S.due("count(6) of Q4", made("W45Q4").count(6), 16);
    }

    private static void faults() {
        S.of("Terms 1", "FAULT: the place of the first letter by which THE TEXT can be no MACHINES,"
            + " whatever came behind it");
        fault("xW11", 0);
        fault("W91p9", 1);
        fault("W19p0a0", 2);
        fault("W11xp0a0", 3);
        fault("W11p1a0", 4);
        fault("W11p0x0", 5);
        fault("W11p0a1p0b0", 6);
        fault("W11p0a0W11", 7);
        fault("W11" + (char) 0, 3);
        fault("W11" + (char) 255, 3);
        fault("W11o", 3);
        fault("W11r", 3);
        fault("W11O", 3);
        fault("W11R", 3);

        S.of("Terms 1", "its length set aside");
        StringBuilder long79 = new StringBuilder("W45");
        for (int part = 0; part < 19; part++) {
            long79.append('q').append(part / 5).append(part % 5 < 3 ? 'a' : 'b').append(part % 5);
        }
        S.due("letters", long79.length(), 79);
        fault(long79.toString(), NONE);
        fault(long79 + "q", 80);
        fault(long79 + "Q", 80);
        fault(long79 + "w", 79);

        S.of("Terms 1", "so the letter a of an EDGE, if there are EDGES by it from there to all STATES already");
        fault("W11p0a0p0a", 9);
        fault("W11q0a0q0a", 9);
        fault("W11p0b0p0b", 9);
        fault("W11p0a0p0b", 10);
        fault("W22p0a0p0a1p0a", 13);
        fault("W22p0a0p0a", 10);
        fault("W22p0a0p1a1p0a", 14);
        fault("W22p0a0p0a1p1a", 14);
        fault("W22p0a0p0a1q0a", 14);
        fault("W41p0a0p0a1p0a2p0a3p0a", 21);
        fault("W15q0b0q0b1q0b2q0b3q0b4q0b", 25);
        fault("W15q0b0q0b1q0b2q0b3q0b", 22);

        S.of("Terms 1", "its length, if it is only not at its end");
        String whole = "W23p0a1q2b0P1Q2";
        boolean[] ends = {false, false, false, true, false, false, false, true, false, false, false, true,
            false, true, false, true};
        for (int length = 0; length <= whole.length(); length++) {
            fault(whole.substring(0, length), ends[length] ? NONE : length);
        }

        S.of("Terms 4", "places (FAULT, JUDGED) are counted from 0 on");
        fault("w", 0);
        fault("W9", 1);
        S.due("judge(1, 0)", new WordsWithin().judge(1, 0), 0);
        S.due("judge(2, 4000100000)", new WordsWithin().judge(2, 4000100000L), 1);
        S.due("judge(3, 400014000100000)", new WordsWithin().judge(3, 400014000100000L), 2);

        S.of("Terms 4", "machines() leaves THE TEXT.");
        WordsWithin x = made("W12p0a0Q1");
        S.due("count(0) behind machines()", x.count(0), 9);
        S.due("fault() behind machines()", x.fault(), NONE);
        S.due("write('P') behind machines()", x.write('P'), 10);
        S.due("write('0')", x.write('0'), 11);
        S.due("machines()", x.machines(), 1);
        S.due("count(5)", x.count(5), 1);
        S.due("count(6)", x.count(6), 2);

        allTold();
    }

    /** The head, and all EDGES from the first STATES to all of them. */
    private static String allFrom(String head, char sign, int from, int states) {
        StringBuilder text = new StringBuilder(head);
        for (int at = 0; at < from * 2 * states; at++) {
            text.append(sign).append(at / states / 2).append(at / states % 2 == 0 ? 'a' : 'b').append(at % states);
        }
        return text.toString();
    }

    private static void allTold() {
        S.of("Terms 4", "a sign p (q) is a FAULT itself where all EDGES of that MACHINE are told already");
        fault("W11p0a0p", 8);
        fault("W11p0a0p0b0p", 11);
        fault("W11p0a0p0b0px", 11);
        fault("W11p0a0p0b0q", 12);
        fault("W11q0a0q0b0q", 11);
        fault("W11q0a0q0b0p", 12);
        fault("W21p0a0p0a1p0b0p0b1p1a0p1a1p1b0p", 32);
        fault("W21p0a0p0a1p0b0p0b1p1a0p1a1p1b0p1b1p", 35);
        fault("W12q0a0q0a1q0b0q0b1q1a0q1a1q1b0q1b1q", 35);
        fault("W12q0a0q0a1q0b0q0b1q1a0q1a1q1b0q1b1p0a0", NONE);

        fault(allFrom("W31", 'p', 3, 3), NONE);
        fault(allFrom("W31", 'p', 3, 3) + "p", 75);
        fault(allFrom("W13", 'q', 3, 3) + "q", 75);
        fault(allFrom("W13", 'q', 3, 3) + "p", 76);
        String less = allFrom("W31", 'p', 3, 3);
        fault(less.substring(0, 71) + "p", 72);

        S.of("Terms 4", "the figure behind it where all from that STATE are");
        for (int states = 3; states <= 4; states++) {
            String all = allFrom("W" + states + "1", 'p', 1, states);
            fault(all + "p0", all.length() + 1);
            fault(all + "p1", all.length() + 2);
            fault(all.substring(0, all.length() - 4) + "p0", all.length() - 2);
        }
        String five = allFrom("W15", 'q', 1, 5);
        fault(five + "q0", five.length() + 1);
        fault(five + "q4", five.length() + 2);
        fault(five.substring(0, five.length() - 4) + "q0", five.length() - 2);
        fault("W21p0a0p0a1p0b0p0b1p0", 20);
        fault("W21p0a0p0a1p0b0p0b1p1", 21);
        fault("W21p0a0p0a1p0b0p0", 17);
        fault("W21p1a0p1a1p1b0p1b1p1", 20);
        fault("W21p1a0p1a1p1b0p1b1p0", 21);
        fault("W12q1a0q1a1q1b0q1b1q1", 20);
        fault("W22q1a0q1a1q1b0q1b1p1", 21);

        S.of("Terms 4", "P (Q) where all its STATES are ENDS.");
        fault("W11P0P", 5);
        fault("W11P0Q", 6);
        fault("W11Q0Q", 5);
        fault("W11Q0P", 6);
        fault("W41P0P1P2P", 10);
        fault("W41P0P1P2P3P", 11);
        fault("W41P0P1P2P3Px", 11);
        fault("W15Q0Q1Q2Q3Q", 12);
        fault("W15Q4Q3Q2Q1Q0Q", 13);
        fault("W15Q4Q3Q2Q1Q0P0", NONE);
    }

    private static void words() {
        // both take all words, so only what is no WORD is refused
        WordsWithin x = made("W11p0a0p0b0P0q0a0q0b0Q0");
        S.of("Terms 1", "told as figures (1 a, 2 b; 0: none; 9 at most)");
        int[] fine = {0, 1, 2, 11, 12, 21, 22, 111111111, 222222222, 121212121};
        for (int word : fine) {
            S.due("takes(0, " + word + ")", x.takes(0, word), 1);
            S.due("after(1, " + word + ")", x.after(1, word), 1);
        }
        int[] none = {-1, -2, -11, 3, 9, 10, 20, 100, 13, 31, 23, 32, 101, 102, 201, 120, 111111110, 111111113,
            311111111, 100000000, 222222223, 1111111111, 2111111111, 2122222222, 1000000000, 2000000002,
            Integer.MAX_VALUE, Integer.MIN_VALUE};
        for (int word : none) {
            S.due("takes(0, " + word + ")", x.takes(0, word), OUTSIDE);
            S.due("after(1, " + word + ")", x.after(1, word), OUTSIDE);
            S.due("see(" + word + ", 1)", x.see(word, 1), OUTSIDE);
        }

        S.of("Terms 1", "(without letters: if STATE 0 is one)");
        S.due("takes(0, 0), STATE 0 is an END", x.takes(0, 0), 1);
        WordsWithin y = made("W22p0a1p1a0P1q0a1Q1Q0");
        S.due("takes(0, 0), another one is", y.takes(0, 0), 0);
        S.due("takes(1, 0), both are", y.takes(1, 0), 1);
        S.due("takes(0, 0), none is", new WordsWithin().takes(0, 0), 0);

        S.of("Terms 1", "a way by EDGES of its letters, one after the other, leads from STATE 0 to an END");
        // ab alone; ba would be the other way round
        WordsWithin z = made("W31p0a1p1b2P2");
        S.due("takes(0, 12)", z.takes(0, 12), 1);
        S.due("takes(0, 21)", z.takes(0, 21), 0);
        S.due("takes(0, 1)", z.takes(0, 1), 0);
        S.due("takes(0, 2)", z.takes(0, 2), 0);
        S.due("takes(0, 121)", z.takes(0, 121), 0);
        // one way of two is enough
        WordsWithin w = made("W41p0a1p0a2p1a3p2b3P3");
        S.due("takes(0, 11)", w.takes(0, 11), 1);
        S.due("takes(0, 12)", w.takes(0, 12), 1);

        // one b among eight a: how many a come behind it, by 3 and by 4
        WordsWithin place = made("W45p0a0p0b1p1a2p2a3p3a1q0a0q0b1q1a2q2a3q3a4q4a1");
        int b = 1;
        for (int behind = 0; behind < 9; behind++) {
            S.due("after(0, " + (111111111 + b) + ")", place.after(0, 111111111 + b), 2 << behind % 3);
            S.due("after(1, " + (111111111 + b) + ")", place.after(1, 111111111 + b), 2 << behind % 4);
            b *= 10;
        }

        S.of("Terms 1", "LESS is a WORD than another one: if it has fewer letters;");
        // b and aa are missing
        WordsWithin v = made("W31p0a1p1a2p0b2P2");
        S.due("missing(0)", v.missing(0), 1);
        S.due("missing(1)", v.missing(1), 2);

        S.of("Terms 1", "of as many by the first letter in which they differ, a less than b.");
        // ab and ba are missing
        WordsWithin u = made("W41p0b1p1a3p0a2p2b3P3");
        S.due("missing(0)", u.missing(0), 2);
        S.due("missing(1)", u.missing(1), 1);
        S.due("missing(2)", u.missing(2), 2);
    }

    private static void acts() {
        S.of("Terms 1", "(an EDGE, or an END, is TURNED: it is there, if it was not, and is not, if it was)");
        WordsWithin x = made("W23");
        S.due("turn(0, 1, 2, 0)", x.turn(0, 1, 2, 0), 1);
        S.due("edge(0, 1, 2, 0)", x.edge(0, 1, 2, 0), 1);
        S.due("turn(0, 1, 2, 0)", x.turn(0, 1, 2, 0), 0);
        S.due("edge(0, 1, 2, 0)", x.edge(0, 1, 2, 0), 0);
        S.due("end(1, 2)", x.end(1, 2), 1);
        S.due("count(6)", x.count(6), 4);
        S.due("end(1, 2)", x.end(1, 2), 0);
        S.due("count(6)", x.count(6), 0);
        S.due("count(7): each is an ACT", x.count(7), 4);

        S.of("Terms 1", "are a row (14 at most; of more the first one is forgotten)");
        WordsWithin y = made("W45");
        for (int act = 0; act < 14; act++) {
            y.turn(1, act / 5, 1, act % 5);
            S.due("count(7)", y.count(7), act + 1);
        }
        y.end(0, 3);
        S.due("count(7) of 15", y.count(7), 14);
        S.due("undo(): END 3", y.undo(), 13);
        S.due("count(5)", y.count(5), 0);
        for (int left = 12; left >= 0; left--) {
            S.due("undo()", y.undo(), left);
        }
        S.due("undo(): the first one is forgotten", y.undo(), STATE);
        S.due("count(4)", y.count(4), 1);
        S.due("edge(1, 0, 1, 0): it was the first one", y.edge(1, 0, 1, 0), 1);
        S.due("edge(1, 0, 1, 1): it was the second one", y.edge(1, 0, 1, 1), 0);
        // a row that was full goes on
        for (int act = 0; act < 40; act++) {
            y.end(1, act % 5);
        }
        S.due("count(7) of 40", y.count(7), 14);
        // 8 turns of each; the last 14 undone leave 26: 6, 5, 5, 5, 5 of them
        for (int left = 13; left >= 0; left--) {
            y.undo();
        }
        S.due("count(6)", y.count(6), 30);
        S.due("undo()", y.undo(), STATE);

        S.of("Terms 1", "the last one can be undone.");
        WordsWithin z = made("W11");
        z.end(0, 0);
        z.turn(1, 0, 1, 0);
        S.due("undo()", z.undo(), 1);
        S.due("count(4)", z.count(4), 0);
        S.due("count(5)", z.count(5), 1);
        S.due("undo()", z.undo(), 0);
        S.due("count(5)", z.count(5), 0);
        S.due("undo(): undoing is no ACT", z.undo(), STATE);
    }

    // ---- part 2

    private static void within() {
        S.of("Terms 2", "WITHIN: each WORD (of however many letters) that MACHINE 0 TAKES MACHINE 1 TAKES, too.");
        // words of a, 3 by 4 letters; words of a, but those of 4 by 5: 19 letters are the fewest
        WordsWithin x = made("W45p0a1p1a2p2a3p3a0P3q0a1q1a2q2a3q3a4q4a0Q0Q1Q2Q3");
        S.due("within()", x.within(), 0);
        S.due("many(9, 3)", x.many(9, 3), 0);
        x.end(1, 4);
        S.due("within()", x.within(), 1);
        // the same by both letters: so many ways lead to each PAIR that most of them are old
        WordsWithin v = made("W45p0a1p0b1p1a2p1b2p2a3p2b3p3a0p3b0q0a1q0b1q1a2q1b2q2a3q2b3q3a4q3b4q4a0q4b0P3");
        for (int state = 0; state < 4; state++) {
            v.end(1, state);
        }
        S.due("within()", v.within(), 0);
        S.due("missing(0)", v.missing(0), 19);
        v.end(1, 4);
        S.due("within()", v.within(), 1);
        S.due("within() of no WORDS", made("W11p0a0").within(), 1);
        S.due("within() of the WORD without letters", made("W11P0").within(), 0);
        S.due("within() of the WORD without letters", made("W11P0Q0").within(), 1);
        S.due("within(), MACHINE 1 takes more", made("W11Q0").within(), 1);
        S.due("within(), an END to which no way leads", made("W21P1").within(), 1);

        S.of("Terms 2", "MISSING: the least WORD that MACHINE 0 TAKES and MACHINE 1 does not.");
        x.end(1, 4);
        S.due("missing(0)", x.missing(0), 19);
        S.due("missing(19)", x.missing(19), 1);
        S.due("missing(20)", x.missing(20), NONE);
        S.due("missing(0), the WORD without letters", made("W11P0").missing(0), 0);
        // of a the least is the one that MACHINE 1 does not take: aa
        WordsWithin y = made("W12p0a0P0q0a1Q0Q1");
        S.due("missing(0)", y.missing(0), 2);
        S.due("missing(2)", y.missing(2), 1);

        S.of("Terms 2", "LEFT OUT of a MACHINE: the least WORD that it does not TAKE.");
        S.due("leftOut(0, 0)", y.leftOut(0, 0), 1);
        S.due("leftOut(0, 1)", y.leftOut(0, 1), 2);
        S.due("leftOut(1, 0)", y.leftOut(1, 0), 1);
        S.due("leftOut(1, 1)", y.leftOut(1, 1), 2);
        S.due("leftOut(1, 0), the WORD without letters", made("W11p0a0P0").leftOut(1, 0), 0);
        S.due("leftOut(0, 0), it takes all", made("W11p0a0p0b0P0").leftOut(0, 0), NONE);
        // all of a, and all with b ahead but for the one of five letters bbbbb
        WordsWithin z = made("W15q0b1q1b2q2b3q3b4q0a0q1a0q2a0q3a0q4a0Q0Q1Q2Q3Q4");
        S.due("leftOut(1, 0)", z.leftOut(1, 0), 5);
        for (int k = 1; k <= 5; k++) {
            S.due("leftOut(1, " + k + ")", z.leftOut(1, k), 2);
        }
    }

    private static void follows() {
        S.of("Terms 2", "if x is an END, y is;");
        WordsWithin x = made("W21P0Q0");
        S.due("follows(0, 0, 0, 1)", x.follows(0, 0, 0, 1), 0);
        S.due("follows(0, 1, 0, 0)", x.follows(0, 1, 0, 0), 1);
        S.due("follows(0, 0, 1, 0)", x.follows(0, 0, 1, 0), 1);
        S.due("follows(1, 0, 0, 1)", x.follows(1, 0, 0, 1), 0);
        S.due("follows(0, 1, 1, 0)", x.follows(0, 1, 1, 0), 1);

        S.of("Terms 2", "for each EDGE of x there is an EDGE of y by the same LETTER");
        WordsWithin y = made("W32p0a0p1b1p2a2p2b2q0a0");
        S.due("follows(0, 0, 0, 1)", y.follows(0, 0, 0, 1), 0);
        S.due("follows(0, 1, 0, 0)", y.follows(0, 1, 0, 0), 0);
        S.due("follows(0, 0, 0, 2)", y.follows(0, 0, 0, 2), 1);
        S.due("follows(0, 1, 0, 2)", y.follows(0, 1, 0, 2), 1);
        S.due("follows(0, 2, 0, 0)", y.follows(0, 2, 0, 0), 0);
        S.due("follows(0, 2, 0, 1)", y.follows(0, 2, 0, 1), 0);
        S.due("follows(1, 1, 0, 0): no EDGES", y.follows(1, 1, 0, 0), 1);
        S.due("follows(0, 0, 1, 1)", y.follows(0, 0, 1, 1), 0);
        S.due("follows(1, 0, 0, 2)", y.follows(1, 0, 0, 2), 1);

        S.of("Terms 2", "where that of x leads to FOLLOWS where that of y leads to");
        // MACHINE 0: a, then b; MACHINE 1: by a to 1, that has no b, or to 2, that has one
        WordsWithin z = made("W23p0a1p1b1q0a1q2b2");
        S.due("follows(0, 0, 1, 0)", z.follows(0, 0, 1, 0), 0);
        z.turn(1, 0, 1, 2);
        S.due("follows(0, 0, 1, 0): one of two is enough", z.follows(0, 0, 1, 0), 1);
        S.due("follows(1, 0, 0, 0): both must", z.follows(1, 0, 0, 0), 1);
        z.turn(1, 1, 1, 1);
        S.due("follows(1, 0, 0, 0): one does not", z.follows(1, 0, 0, 0), 0);

        S.of("Terms 2", "as widely as this can be told of STATES at once (so each FOLLOWS itself)");
        WordsWithin w = made("W45p0a1p1a2p2a3p3a0q0a1q1a2q2a3q3a4q4a0");
        for (int state = 0; state < 4; state++) {
            S.due("follows itself, " + state, w.follows(0, state, 0, state), 1);
            S.due("follows the next one, " + state, w.follows(0, state, 0, (state + 1) % 4), 1);
            S.due("follows one of the other ring, " + state, w.follows(0, state, 1, 4), 1);
        }
        S.due("follows(1, 4, 1, 4)", w.follows(1, 4, 1, 4), 1);
        S.due("follows(1, 4, 0, 3)", w.follows(1, 4, 0, 3), 1);
        w.end(0, 2);
        S.due("follows(0, 0, 0, 0)", w.follows(0, 0, 0, 0), 1);
        S.due("follows(0, 0, 0, 1)", w.follows(0, 0, 0, 1), 0);
        S.due("follows(0, 3, 1, 0): by three EDGES to an END", w.follows(0, 3, 1, 0), 0);
        S.due("follows(1, 0, 0, 3)", w.follows(1, 0, 0, 3), 1);
    }

    /** search() with 0 to 4, then each PAIR that is KEPT, and that there are no more. */
    private static void search(WordsWithin x, int mode, int... want) {
        for (int what = 0; what < 5; what++) {
            S.due("search(" + mode + ", " + what + ")", x.search(mode, what), want[what]);
        }
        for (int pair = 5; pair < want.length; pair++) {
            S.due("kept(" + mode + ", " + (pair - 5) + ")", x.kept(mode, pair - 5), want[pair]);
        }
        S.due("kept(" + mode + ", one more)", x.kept(mode, want.length - 5), UNKNOWN);
    }

    private static void searchBegins() {
        S.of("Terms 2", "A SEARCH, by a MODE (0 PLAIN, 1 LEAST, 2 WIDE)");
        WordsWithin x = made("W12p0a0p0b0q0a0q0b0q0b1");
        // by a as it was; by b with a set that is greater: PLAIN keeps it; 0 FOLLOWS 0 for WIDE
        search(x, 0, 1, 2, 2, 3, 0, 1, 3);
        search(x, 1, 1, 1, 1, 2, 0, 1);
        search(x, 2, 1, 0, 0, 1, 0);
        S.due("search(-1, 0)", x.search(-1, 0), OUTSIDE);
        S.due("search(3, 0)", x.search(3, 0), OUTSIDE);

        S.of("Terms 2", "It is BAD, if p is an END and S has none.");
        S.due("search(0, 0), p is none, S has none", made("W11").search(0, 0), 1);
        S.due("search(0, 0), p is one, S has none", made("W11P0").search(0, 0), 0);
        S.due("search(0, 0), p is none, S has one", made("W11Q0").search(0, 0), 1);
        S.due("search(0, 0), p is one, S has one", made("W11P0Q0").search(0, 0), 1);
        S.due("search(0, 0), the END is not in S", made("W12P0Q1").search(0, 0), 0);
        S.due("search(0, 0), one of two is an END", made("W22p0a1P1q0a0q0a1Q1").search(0, 0), 1);
        S.due("search(0, 0), another STATE than p is one", made("W21P1").search(0, 0), 1);

        S.of("Terms 2", "by WIDE one is PASSED OVER, if p FOLLOWS a STATE of S");
        search(made("W11"), 2, 1, 0, 0, 1, 0);
        search(made("W11"), 1, 1, 1, 1, 0, 0, 1);
        // it FOLLOWS STATE 1, that is not in S
        search(made("W12p0a0q1a1"), 2, 1, 2, 1, 1, 1, 0);

        S.of("Terms 2", "by any MODE, if it is COVERED by one that is KEPT");
        WordsWithin y = made("W11p0a0");
        search(y, 0, 1, 2, 2, 1, 0, 1, 0);
        search(y, 1, 1, 2, 1, 1, 1, 0);
        search(y, 2, 1, 2, 1, 1, 1, 0);

        S.of("Terms 2", "First (0, STATE 0 of MACHINE 1 alone) COMES.");
        for (String text : new String[] {"W11", "W45", "W41", "W15"}) {
            search(made(text), 0, 1, 1, 1, 0, 0, 1);
            search(made(text), 1, 1, 1, 1, 0, 0, 1);
            search(made(text), 2, 1, 0, 0, 1, 0);
        }
    }

    private static void searchGoesOn() {
        S.of("Terms 2", "those that are KEPT and are COVERED by it are GONE (of the ROW, too, if they are not TAKEN yet)");
        // by a (0, 1 and 2), by b (0, 1) ahead of the turn of the first one: it is GONE of the ROW
        WordsWithin x = made("W13p0a0p0b0q0a1q0a2q0b1");
        search(x, 0, 1, 4, 4, 5, 0, 1, 6, 2, 0);
        search(x, 1, 1, 3, 1, 3, 3, 0);

        S.of("Terms 2", "it is KEPT, behind all others, and last in the ROW");
        // by a to 1, by b to 2; from 1 to 3, from 2 to 0: the one behind the other
        WordsWithin y = made("W41p0a1p0b2p1a3p2a0");
        search(y, 0, 1, 5, 5, 2, 0, 1, 100, 200, 300, 0);

        S.of("Terms 2", "for a, then b, for each EDGE of p by it, by where they lead to, the least STATE first");
        WordsWithin z = made("W41p0b1p0a3p0a2p0b0");
        search(z, 0, 1, 5, 5, 4, 0, 1, 200, 300, 0, 100);

        S.of("Terms 2", "that STATE COMES with all STATES to which EDGES by that letter lead from STATES of S");
        WordsWithin w = made("W15p0a0q0a1q0a2q1a3q2a4q3a3q4a4q0b3q1b0");
        // {0}, {1, 2}, {3, 4}
        search(w, 0, 1, 3, 3, 1, 0, 1, 6, 24);

        S.of("Terms 2", "if it is BAD, the SEARCH ends");
        // STATE 1 is the END; 2 and 3 do not come any more
        WordsWithin v = made("W41p0a1p0a2p0b3P1");
        search(v, 0, 0, 1, 2, 0, 0, 1, 100);
        search(v, 1, 0, 1, 2, 0, 0, 1, 100);
        search(made("W11p0a0P0"), 0, 0, 0, 1, 0, 0, 1);

        S.of("Terms 2", "FOUND: the WORD by which the BAD PAIR came (from the first one on; it need not be the least).");
        WordsWithin u = made("W41p0a1p0a2p1b3p2a3P3");
        int[] ab = {2, 1, 2, NONE};
        int[] aa = {2, 1, 1, NONE};
        for (int k = 0; k < 4; k++) {
            S.due("found(0, " + k + ")", u.found(0, k), ab[k]);
            S.due("found(1, " + k + ")", u.found(1, k), ab[k]);
            S.due("missing(" + k + ")", u.missing(k), aa[k]);
        }
        S.due("found(0, 0), the first one is BAD", made("W11P0").found(0, 0), 0);
        S.due("found(0, 1), the first one is BAD", made("W11P0").found(0, 1), NONE);
        plainlySearched();
    }

    private static void plainlySearched() {
        S.of("Terms 4", "A PAIR that is TAKEN goes on with all its EDGES, also if it is GONE meanwhile.");
        WordsWithin x = made("W21p0a0p0b1q0b0");
        search(x, 1, 1, 3, 2, 1, 2, 0, 100);
        // by b it is GONE by its own a, and yet finds the BAD one
        WordsWithin y = made("W21p0a0p0b1P1q0b0");
        search(y, 1, 0, 1, 2, 0, 1, 0, 101);
        S.due("found(1, 0)", y.found(1, 0), 1);
        S.due("found(1, 1)", y.found(1, 1), 2);

        S.of("Terms 4", "search(.., 0) is 0 with a BAD PAIR");
        for (int mode = 0; mode < 3; mode++) {
            S.due("search(" + mode + ", 0)", made("W21p0a1P1").search(mode, 0), 0);
            S.due("search(" + mode + ", 0) without", made("W21p0a1").search(mode, 0), 1);
        }

        S.of("Terms 4", "TAKEN counts the one from which that came");
        for (int mode = 0; mode < 3; mode++) {
            S.due("search(" + mode + ", 1)", made("W21p0a1P1").search(mode, 1), 1);
            S.due("search(" + mode + ", 1), the first one is BAD", made("W21p0a1P0").search(mode, 1), 0);
        }

        S.of("Terms 4", "kept() tells those that are KEPT as the SEARCH ends, the BAD one, too"
            + " (what it COVERED is GONE ahead of it)");
        WordsWithin z = made("W11p0a0P0Q0");
        search(z, 0, 0, 1, 2, 0, 0, 1, 0);
        search(z, 1, 0, 1, 1, 0, 1, 0);
        search(z, 2, 0, 1, 1, 0, 1, 0);
        search(made("W11P0"), 1, 0, 0, 1, 0, 0, 1);

        S.of("Terms 4", "S may be no STATES: such a PAIR COMES like others.");
        // (0, none) by a, (1, none) by b; each comes again and is PASSED OVER
        WordsWithin w = made("W21p0a0p0b1p1a1");
        search(w, 0, 1, 3, 3, 3, 0, 1, 0, 100);
        S.due("kept(0, 1)", w.kept(0, 1), 0);
    }

    /** MACHINE 0 goes anywhere by each letter, MACHINE 1 is led to each of its 32 sets. */
    private static void allPairs() {
        S.of("Terms 2", "a PAIR is a STATE p of MACHINE 0 and a set S of STATES of MACHINE 1.");
        WordsWithin x = made("W45q0a1q1a2q2a3q3a4q4a0q0b4q1b1q1b3q2b2q3b0");
        for (int at = 0; at < 32; at++) {
            x.turn(0, at / 8, at / 4 % 2 + 1, at % 4);
        }
        // the first one, and 8 from each of 128, of which 128 are new
        int[] want = {1, 128, 128, 1 + 8 * 128 - 128, 0};
        for (int what = 0; what < 5; what++) {
            S.due("search(0, " + what + ")", x.search(0, what), want[what]);
        }
        boolean[] met = new boolean[400];
        int many = 0;
        for (int pair = 0; pair < 128; pair++) {
            int told = x.kept(0, pair);
            boolean is = told >= 0 && told < 400 && told % 100 < 32;
            S.must("kept(0, " + pair + ") is a PAIR that was not told yet: " + told, is && !met[told]);
            if (is) {
                met[told] = true;
                many++;
            }
        }
        S.due("PAIRS", many, 128);
        S.due("kept(0, 128)", x.kept(0, 128), UNKNOWN);
        // those without STATES COVER all others; by WIDE one of them all, since all p are alike
        S.due("search(1, 2)", x.search(1, 2), 4);
        S.due("search(2, 2)", x.search(2, 2), 1);
        S.due("found(0, 0)", x.found(0, 0), NONE);
    }

    private static void covered() {
        S.of("Terms 2", "PLAIN: p is q, and S is T");
        search(made("W21p0a0p0a1q0a0"), 0, 1, 2, 2, 1, 0, 1, 101);
        search(made("W12p0a0q0a0q0a1q1a0q1a1"), 0, 1, 2, 2, 1, 0, 1, 3);
        search(made("W12p0a0q0a1q1a0"), 0, 1, 2, 2, 1, 0, 1, 2);

        S.of("Terms 2", "LEAST: p is q, and each STATE of T is in S");
        // a greater set is PASSED OVER; one that is apart is KEPT; a less one makes the greater GONE
        search(made("W12p0a0q0a0q0a1q1a0q1a1"), 1, 1, 1, 1, 1, 0, 1);
        search(made("W12p0a0q0a1q1a0"), 1, 1, 2, 2, 1, 0, 1, 2);
        // {0}, {1, 2}, {2}: {1, 2} is GONE by {2} behind its turn, that by {}
        search(made("W13p0a0q0a1q0a2q1a2"), 1, 1, 4, 1, 1, 3, 0);
        // another p with a greater set is not COVERED
        search(made("W22p0a1q0a0q0a1"), 1, 1, 2, 2, 0, 0, 1, 103);
        // sets that have one STATE of two together: neither is COVERED
        search(made("W14p0a0p0b0q0a1q0a2q0b2q0b3q1a1q2a2q2b2q3b3q1b1q3a3"), 1, 1, 3, 3, 4, 0, 1, 6, 12);
    }

    private static void coveredWide() {
        S.of("Terms 2", "WIDE: p FOLLOWS q");
        // 1 (a) and 2 (a and b) come with no STATES: 1 FOLLOWS 2, and so does 0
        search(made("W31p0a1p0a2p1a1p2a2p2b2"), 2, 1, 2, 1, 2, 2, 200);
        // 1 has both now: 2 FOLLOWS it and is PASSED OVER
        search(made("W31p0a1p0a2p1a1p1b1p2a2"), 2, 1, 2, 1, 3, 1, 100);
        // neither FOLLOWS the other
        search(made("W31p0a1p0a2p1a1p2b2"), 2, 1, 3, 3, 2, 0, 1, 100, 200);

        S.of("Terms 2", "each STATE of T FOLLOWS some STATE of S.");
        // 1 has no EDGES and FOLLOWS 2: with 1 first (1, 2) is COVERED
        search(made("W23p0a1p0b1p1a1q0a1q0b2q2b2"), 2, 1, 3, 2, 2, 1, 1, 100);
        search(made("W23p0a1p0b1p1a1q0a1q0b2q2b2"), 1, 1, 3, 2, 1, 2, 1, 100);
        // with 2 first it is GONE
        search(made("W23p0a1p0b1p1a1q0a2q0b1q2b2"), 2, 1, 3, 2, 1, 2, 1, 100);
        // 1 of {1, 2} FOLLOWS 3, and 2 does not: not COVERED
        search(made("W24p0a1p0b1p1a1p1b1q0a1q0a2q0b3q2a2q3b3"), 2, 1, 3, 1, 3, 3, 100);
    }

    private static void mended() {
        S.of("Terms 2", "MENDED: by one EDGE less of MACHINE 0, or one EDGE more of MACHINE 1, it is WITHIN");
        // ab is missing, a is taken: less 0 a 1 or 1 b 2; more 1 b 1
        WordsWithin x = made("W32p0a1p1b2P2q0a1Q1");
        S.due("mended(0, 0)", x.mended(0, 0), 2);
        S.due("mended(0, 1)", x.mended(0, 1), 11);
        S.due("mended(1, 0)", x.mended(1, 0), 1);
        S.due("mended(1, 1)", x.mended(1, 1), 121);
        // two of them would be needed
        WordsWithin y = made("W21p0a1p0b1P1Q0");
        S.due("mended(0, 0)", y.mended(0, 0), 0);
        S.due("mended(1, 0)", y.mended(1, 0), 0);
        // no EDGE does it: the WORD without letters is missing
        WordsWithin z = made("W11P0");
        S.due("mended(0, 0)", z.mended(0, 0), 0);
        S.due("mended(0, 1)", z.mended(0, 1), NONE);
        S.due("mended(1, 0)", z.mended(1, 0), 0);
        S.due("mended(1, 1)", z.mended(1, 1), NONE);

        S.of("Terms 4", "Where it is WITHIN mended() is 0, NONE.");
        WordsWithin w = made("W11p0a0q0a0P0Q0");
        for (int machine = 0; machine < 2; machine++) {
            S.due("mended(" + machine + ", 0)", w.mended(machine, 0), 0);
            S.due("mended(" + machine + ", 1)", w.mended(machine, 1), NONE);
        }
        S.due("mended(0, 1) of no EDGES", new WordsWithin().mended(0, 1), NONE);
        S.due("mended(1, 0) of no EDGES", new WordsWithin().mended(1, 0), 0);
    }

    private static void judged(WordsWithin x, int n, long row, int want) {
        S.due("judge(" + n + ", " + row + ")", x.judge(n, row), want);
    }

    private static void judgedRows() {
        // WITHIN: 40001 is so
        WordsWithin x = new WordsWithin();
        S.of("Terms 2", "JUDGED: n doings (1 to 3)");
        judged(x, 0, 0, OUTSIDE);
        judged(x, 0, 40001, OUTSIDE);
        judged(x, 1, 40001, NONE);
        judged(x, 3, 400014000140001L, NONE);
        judged(x, 4, 40001, OUTSIDE);
        judged(x, -1, 40001, OUTSIDE);

        S.of("Terms 2", "told as five figures each (the first one's are the highest of row)");
        judged(x, 2, 4000140000L, 1);
        judged(x, 2, 4000040001L, 0);
        judged(x, 3, 400014000140000L, 2);
        judged(x, 3, 400014000040001L, 1);
        judged(x, 3, 400004000140001L, 0);
        judged(x, 2, 40001, 0);
        judged(x, 3, 4000140001L, 0);

        S.of("Terms 2", "the place of the first that can not be (or is not so); NONE: none.");
        judged(x, 2, 4000040000L, 0);
        judged(x, 3, 400014000040000L, 1);
        judged(x, 3, 999999999999999L, 0);
        judged(x, 3, 400019999999999L, 1);
        judged(x, 3, 400014000199999L, 2);
        judged(x, 2, 4000140001L, NONE);

        S.of("Terms 2", "1, a MACHINE, from, by, to: that EDGE is TURNED");
        WordsWithin y = made("W45");
        long[] fine = {10010, 10020, 10313, 10323, 11414, 11424, 11010};
        long[] none = {12010, 19010, 10410, 10014, 11510, 11015, 10000, 10030, 10090, 10910, 10019};
        for (long row : fine) {
            judged(y, 1, row, NONE);
        }
        for (long row : none) {
            judged(y, 1, row, 0);
        }
        // it is there for those behind it, and turned twice it is not
        WordsWithin z = made("W11P0");
        judged(z, 1, 30001, 0);
        judged(z, 2, 1001030001L, NONE);
        judged(z, 3, 100101001030001L, 2);
        judged(z, 2, 3000110010L, 0);
        S.due("edge(0, 0, 1, 0): nothing is changed", z.edge(0, 0, 1, 0), 0);

        S.of("Terms 2", "2, a MACHINE, a STATE, 0, 0: that END is TURNED");
        long[] fineEnds = {20000, 20300, 21000, 21400};
        long[] noEnds = {22000, 29000, 20400, 21500, 20010, 20001, 20090, 20009, 21410, 21401};
        for (long row : fineEnds) {
            judged(y, 1, row, NONE);
        }
        for (long row : noEnds) {
            judged(y, 1, row, 0);
        }
        judged(z, 1, 30000, NONE);
        judged(z, 2, 2000030000L, 1);
        judged(z, 3, 200002000030000L, NONE);
        S.due("count(5): nothing is changed", z.count(5), 1);
    }

    private static void judgedDoings() {
        S.of("Terms 2", "3, a MACHINE, three figures, a WORD (as many 0 ahead as it has fewer letters): it TAKES it");
        // MACHINE 0 takes all words, MACHINE 1 those of a
        WordsWithin x = made("W12p0a0p0b0P0q0a0Q0");
        long[] fine = {30000, 30001, 30002, 30011, 30022, 30111, 30222, 30121, 31000, 31001, 31111};
        for (long row : fine) {
            judged(x, 1, row, NONE);
        }
        long[] not = {31002, 31021, 31112, 32000, 32001, 39001};
        for (long row : not) {
            judged(x, 1, row, 0);
        }

        S.of("Terms 4", "In JUDGED 3 the figures 000 are the WORD without letters");
        judged(x, 1, 30000, NONE);
        judged(made("W22p0a1P1Q1"), 1, 30000, 0);
        judged(made("W22p0a1P1Q0"), 1, 31000, NONE);

        S.of("Terms 4", "figures that are no WORD (3 to 9, a 0 behind a letter) can not be.");
        long[] none = {30003, 30009, 30030, 30300, 30900, 30013, 30131, 30311, 30010, 30020, 30100, 30200, 30110,
            30101, 30220, 30102, 30201, 30120};
        for (long row : none) {
            judged(x, 1, row, 0);
        }

        S.of("Terms 2", "4, 0, 0, 0, 1 or 0: it is WITHIN (1), or not (0)");
        WordsWithin in = new WordsWithin();
        WordsWithin out = made("W11P0");
        judged(in, 1, 40001, NONE);
        judged(in, 1, 40000, 0);
        judged(out, 1, 40001, 0);
        judged(out, 1, 40000, NONE);
        for (long row : new long[] {40002, 40009, 40011, 40101, 41001, 40010, 40100, 41000, 49999}) {
            judged(in, 1, row, 0);
            judged(out, 1, row, 0);
        }

        S.of("Terms 2", "5, a STATE x of MACHINE 0, a STATE y of MACHINE 1, 0, 1 or 0: x FOLLOWS y (1), or not (0)");
        // 0 of MACHINE 0 FOLLOWS none; 3 FOLLOWS all; 4 of MACHINE 1 is an END
        WordsWithin y = made("W45p0a0P1Q4");
        judged(y, 1, 53401, NONE);
        judged(y, 1, 53400, 0);
        judged(y, 1, 51401, NONE);
        judged(y, 1, 51301, 0);
        judged(y, 1, 51300, NONE);
        judged(y, 1, 50401, 0);
        judged(y, 1, 50400, NONE);
        for (long row : new long[] {54001, 54000, 50501, 50500, 59000, 50900, 53411, 53410, 51310, 53402, 51302,
            53409, 51309}) {
            judged(y, 1, row, 0);
        }

        S.of("Promise 21", "JUDGED; NONE.");
        for (long first : new long[] {0, 6, 7, 8, 9}) {
            judged(in, 1, first * 10000, 0);
            judged(in, 1, first * 10000 + 1, 0);
        }
        judged(in, 1, 99999, 0);
        judged(in, 1, 1, 0);
    }

    // ---- part 3

    private static void seen() {
        S.of("Terms 3", "6 such at most, none at first");
        WordsWithin x = made("W11P0");
        S.due("count(8) at first", x.count(8), 0);
        S.due("unsee() at first", x.unsee(), 0);
        for (int many = 1; many <= 6; many++) {
            S.due("see(0, 1)", x.see(0, 1), many);
        }
        S.due("see(0, 1) as the seventh", x.see(0, 1), FULL);
        S.due("see(1, 0) as the seventh", x.see(1, 0), FULL);
        S.due("count(8)", x.count(8), 6);
        S.due("which()", x.which(), 1);

        S.of("Terms 3", "that a WORD was taken (1), or was not (0), by a MACHINE, if it began at an unknown STATE");
        // MACHINE 0 takes a from STATE 0 alone, MACHINE 1 takes b from STATE 3 alone
        WordsWithin y = made("W45p0a1P1q3b4Q4");
        y.see(1, 1);
        S.due("which() of a taken", y.which(), 1);
        y.unsee();
        y.see(1, 0);
        S.due("which() of a not taken", y.which(), 14 + 16 * 31);
        y.see(2, 1);
        S.due("which() of b taken, too", y.which(), 16 * 8);
        y.see(0, 1);
        S.due("which() of what can not be", y.which(), 0);

        S.of("Terms 3", "WHICH: STATES by which all that is SEEN is so, as bits"
            + " (1, 2, 4, 8 those of MACHINE 0; 16 times 1, 2, 4, 8, 16 those of MACHINE 1).");
        int[] bits = {1, 2, 4, 8};
        for (int state = 0; state < 4; state++) {
            WordsWithin z = made("W45P" + state);
            z.see(0, 1);
            S.due("which(), END " + state + " of MACHINE 0", z.which(), bits[state]);
        }
        int[] others = {16, 32, 64, 128, 256};
        for (int state = 0; state < 5; state++) {
            WordsWithin z = made("W45Q" + state);
            z.see(0, 1);
            S.due("which(), END " + state + " of MACHINE 1", z.which(), others[state]);
        }
        // the first of six rules 0 out, the last one 1
        WordsWithin w = made("W31p0a0p1b1P0P1P2");
        w.see(1, 0);
        for (int k = 0; k < 4; k++) {
            w.see(0, 1);
        }
        S.due("which()", w.which(), 6);
        w.see(2, 0);
        S.due("which()", w.which(), 4);

        S.of("Terms 4", "WHICH without what is SEEN: all STATES that there are.");
        S.due("which() at first", new WordsWithin().which(), 1 + 16);
        S.due("which() of W45", made("W45").which(), 15 + 16 * 31);
        S.due("which() of W14", made("W14").which(), 1 + 16 * 15);
        S.due("which() of W41", made("W41").which(), 15 + 16);
        w.unsee();
        S.due("which() behind unsee()", w.which(), 7 + 16);
    }

    private static void shares() {
        S.of("Terms 3", "how many WORDS of 6 letters at most that MACHINE 0 TAKES MACHINE 1 TAKES more in the mean");
        // words of a of 0, 3, 6, 9 letters: three of them; of 3, 7: one; of 1, 5: two
        S.due("share(0, true) of 0, 3, 6", made("W31p0a1p1a2p2a0P0q0a0Q0").share(0, true), 3);
        S.due("share(0, true) of 3, 7", made("W41p0a1p1a2p2a3p3a0P3q0a0Q0").share(0, true), 1);
        S.due("share(0, true) of 1, 5", made("W41p0a1p1a2p2a3p3a0P1q0a0Q0").share(0, true), 2);
        S.due("share(0, true) of all", made("W11p0a0p0b0P0q0a0q0b0Q0").share(0, true), 127);
        S.due("share(0, true) of none", made("W11p0a0p0b0q0a0q0b0Q0").share(0, true), 0);
        S.due("share(0, true) of the one without letters", made("W11P0q0a0Q0").share(0, true), 1);

        S.of("Terms 3", "if its ENDS come one by one, in each order as likely");
        String one = "W25p0a1P1q0a0q0a1q0a2q0a3q0a4";
        String[] ends = {"Q4", "Q4Q3", "Q4Q3Q2", "Q4Q3Q2Q1", "Q4Q3Q2Q1Q0"};
        for (int many = 1; many <= 5; many++) {
            WordsWithin x = made(one + ends[many - 1]);
            S.due("share(4, true), one of " + many, x.share(4, true), 1);
            S.due("share(4, false), one of " + many, x.share(4, false), many);
        }
        // the word a leads to 1 and 2, ab to 2 and 3 and 4, of which 3 is no END
        WordsWithin y = made("W35p0a1p1b2P1P2q0a1q0a2q1b2q1b3q2b4Q1Q2Q4");
        S.due("share(2, true): 1 / 2 and 1 / 2", y.share(2, true), 1);
        S.due("share(2, false)", y.share(2, false), 1);
        S.due("share(4, true)", y.share(4, true), 1);
        S.due("share(4, false)", y.share(4, false), 2);
        S.due("share(3, true)", y.share(3, true), STATE);
    }

    private static void lost(WordsWithin x, int tenths, int above, int below) {
        S.due("lost(" + tenths + ", true)", x.lost(tenths, true), above);
        S.due("lost(" + tenths + ", false)", x.lost(tenths, false), below);
    }

    private static void lost() {
        S.of("Terms 3", "LOST: each END of MACHINE 1 is none by x tenths (0 to 10), by itself: that it is WITHIN");
        // one END that is needed
        WordsWithin x = made("W11P0Q0");
        int[] above = {1, 9, 4, 7, 3, 1, 2, 3, 1, 1, 0};
        int[] below = {1, 10, 5, 10, 5, 2, 5, 10, 5, 10, 1};
        lost(x, -1, OUTSIDE, OUTSIDE);
        for (int tenths = 0; tenths <= 10; tenths++) {
            lost(x, tenths, above[tenths], below[tenths]);
        }
        lost(x, 11, OUTSIDE, OUTSIDE);
        // one of two is enough; both are needed
        lost(made("W23p0a1P1q0a1q0a2Q1Q2"), 1, 99, 100);
        lost(made("W23p0a1P0P1q0a1Q0Q1"), 1, 81, 100);
        // it is not WITHIN with all of them; it is with none of them
        lost(made("W21p0a1P1q0a0"), 0, 0, 1);
        lost(made("W21p0a1P1q0a0"), 10, 0, 1);
        lost(made("W15Q0Q1Q2Q3Q4"), 10, 1, 1);
        // five that are needed
        lost(made("W15p0a0P0q0a1q1a2q2a3q3a4q4a0Q0Q1Q2Q3Q4"), 1, 59049, 100000);
    }

    /** The number that becomes next by one step. */
    private static long ahead(long next) {
        long inverse = 1;
        for (int i = 0; i < 6; i++) {
            inverse *= 2 - 6364136223846793005L * inverse;
        }
        return (next - 1442695040888963407L) * inverse;
    }

    /** What is drawn when the upper 31 bits are v, whatever the lower ones are. */
    private static void drawn(WordsWithin x, long v, int want) {
        x.seed(ahead(v << 33));
        S.due("drawn(1) by " + v, x.drawn(1), want);
        S.due("seed() behind it", x.seed(ahead((v << 33) + 0x1ffffffffL)), v << 33);
        S.due("drawn(1) by " + v + " and more", x.drawn(1), want);
    }

    private static void drawn() {
        S.of("Terms 3", "m times (1 to 20)");
        WordsWithin x = made("W11p0a0p0b0P0q0a0q0b0Q0");
        S.due("drawn(0)", x.drawn(0), OUTSIDE);
        S.due("drawn(1)", x.drawn(1), 3);
        S.due("drawn(20)", x.drawn(20), 60);
        S.due("drawn(21)", x.drawn(21), OUTSIDE);

        S.of("Terms 3", "(THE SEED, a long; 0 at first)");
        S.due("seed(0)", new WordsWithin().seed(0), 0);
        WordsWithin y = new WordsWithin();
        y.drawn(1);
        S.due("seed() behind the first one", y.seed(0), 1442695040888963407L);

        S.of("Terms 3", "becomes x times 6364136223846793005 and 1442695040888963407 (64 bits, wrapping)");
        long[] from = {0, 1, -1, 2, Long.MAX_VALUE, Long.MIN_VALUE, 1442695040888963407L};
        // by hand, of 2 to the 64th what is left
        String[] next = {"1442695040888963407", "7806831264735756412", "13525302890751722018", "14170967488582549417",
            "4301930853896946210", "10666067077743739215", "1876011003808476466"};
        for (int i = 0; i < from.length; i++) {
            y.seed(from[i]);
            y.drawn(1);
            S.due("seed() behind " + from[i], y.seed(0), Long.parseUnsignedLong(next[i]));
        }

        S.of("Terms 3", "of its upper 31 bits v what is left by 10 is how many letters a WORD has");
        // rings by both letters: how many letters by 4 and by 5 tell it
        for (int letters = 0; letters < 10; letters++) {
            WordsWithin z = made("W45p0a1p0b1p1a2p1b2p2a3p2b3p3a0p3b0q0a1q1a2q2a3q3a4q4a0");
            for (int from5 = 0; from5 < 5; from5++) {
                z.turn(1, from5, 2, (from5 + 1) % 5);
            }
            z.end(0, letters % 4);
            z.end(1, letters % 5);
            drawn(z, letters, 3);
            drawn(z, 2147483640 + letters - (letters > 7 ? 10 : 0), 3);
        }
        drawnLetters();
    }

    private static void drawnLetters() {
        S.of("Terms 3", "each a, if the lowest bit of v by 16 (down), then of that by 2 (down) and so on, is 0, else b");
        // MACHINE 0 takes ab alone, MACHINE 1 takes ba alone
        WordsWithin x = made("W33p0a1p1b2P2q0b1q1a2Q2");
        drawn(x, 32, 1);
        drawn(x, 22, 2);
        drawn(x, 2, 0);
        drawn(x, 12, 0);
        drawn(x, 52, 0);
        drawn(x, 162, 1);
        // a alone, b alone
        WordsWithin y = made("W22p0a1P1q0b1Q1");
        drawn(y, 1, 1);
        drawn(y, 11, 1);
        drawn(y, 21, 2);
        drawn(y, 31, 2);
        drawn(y, 41, 1);
        drawn(y, 51, 2);
        // nine letters: baaaaaaaa, and bbbbbbb by the greatest v
        WordsWithin z = made("W25p0b1p1a1P1q0b1q1b2q2b3q3b4q4b0Q2");
        drawn(z, 19, 1);
        drawn(z, 2147483647L, 2);

        S.of("Terms 3", "1, if MACHINE 0 TAKES it, and 2, if MACHINE 1 does, each time, together.");
        S.due("drawn(20), neither", made("W11").drawn(20), 0);
        S.due("drawn(20), MACHINE 0", made("W11p0a0p0b0P0").drawn(20), 20);
        S.due("drawn(20), MACHINE 1", made("W11q0a0q0b0Q0").drawn(20), 40);
        S.due("drawn(20), both", made("W11p0a0p0b0P0q0a0q0b0Q0").drawn(20), 60);
        S.due("drawn(7), both", made("W11p0a0p0b0P0q0a0q0b0Q0").drawn(7), 21);
        // by 20 at once what is drawn by 20 one by one
        WordsWithin w = made("W22p0a1P1q0a0q0b1q1a1Q1");
        int sum = 0;
        for (int i = 0; i < 20; i++) {
            sum += w.drawn(1);
        }
        long behind = w.seed(0);
        S.due("drawn(20)", w.drawn(20), sum);
        S.due("seed(0)", w.seed(0), behind);
    }

    private static void slots() {
        S.of("Terms 3", "SLOTS 0 to 1 keep both MACHINES");
        WordsWithin x = made("W22p0a1q1b0P0Q1");
        S.due("keep(-1)", x.keep(-1), UNKNOWN);
        S.due("keep(0)", x.keep(0), 2);
        x.turn(0, 0, 2, 0);
        x.end(1, 0);
        S.due("keep(1)", x.keep(1), 3);
        S.due("keep(2)", x.keep(2), UNKNOWN);
        x.turn(1, 1, 2, 0);
        x.end(0, 0);
        S.due("again(-1)", x.again(-1), UNKNOWN);
        S.due("again(2)", x.again(2), UNKNOWN);
        S.due("again(0)", x.again(0), 2);
        S.due("count(5)", x.count(5), 1);
        S.due("count(6)", x.count(6), 2);
        S.due("edge(0, 0, 2, 0)", x.edge(0, 0, 2, 0), 0);
        S.due("edge(1, 1, 2, 0)", x.edge(1, 1, 2, 0), 1);
        S.due("again(1)", x.again(1), 3);
        S.due("count(6)", x.count(6), 3);
        S.due("edge(0, 0, 2, 0)", x.edge(0, 0, 2, 0), 1);

        S.of("Terms 3", "(THE ROW of ACTS is empty when one goes on)");
        x.end(0, 1);
        S.due("count(7)", x.count(7), 1);
        x.again(0);
        S.due("count(7) behind again(0)", x.count(7), 0);
        S.due("undo() behind again(0)", x.undo(), STATE);
        x.end(0, 1);
        S.due("undo() of an ACT behind it", x.undo(), 0);
        S.due("count(5)", x.count(5), 1);
        x.end(0, 1);
        x.keep(0);
        S.due("count(7) behind keep(0): it stays", x.count(7), 1);
    }
}

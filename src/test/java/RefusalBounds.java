import java.util.List;
import java.util.Map;
import java.util.Set;
import java.util.function.Supplier;

/**
 * Which of two refusals is told; that a refused call, and one that only tells, changes nothing; and
 * that another one changes no more than it says. Each call is made on one of two objects that are
 * alike, and both are then looked through.
 */
public final class RefusalBounds {
    private static final int UNKNOWN = -1, OUTSIDE = -2, STATE = -3, FULL = -4, NONE = -9;
    private static final Sentences S = new Sentences();

    private interface Call {
        long of(WordsWithin x);
    }

    public static void main(String[] args) {
        firstNamed();
        refusedText();
        refusedMachines();
        refusedActs();
        refusedWords();
        refusedSearches();
        refusedSeen();
        refusedSlots();
        countsOnly();
        onlyTold();
        onlyTheText();
        onlyTheMachines();
        onlyTheRest();
        S.end();
    }

    // ---- objects that hold something

    /** All but SLOTS. */
    private static WordsWithin notKept() {
        WordsWithin x = Look.made("W23p0a1p1b0q0a1q1b2q2a0P1Q0Q2");
        return acted(x);
    }

    /** All, and both SLOTS. */
    private static WordsWithin rich() {
        WordsWithin x = Look.made("W23p0a1p1b0q0a1q1b2q2a0P1Q0Q2");
        x.keep(0);
        x.turn(0, 1, 1, 1);
        x.end(1, 1);
        x.keep(1);
        x.end(1, 1);
        x.turn(0, 1, 1, 1);
        return acted(x);
    }

    /** It is not WITHIN; STATE 1 of MACHINE 1 is no END. */
    private static WordsWithin acted(WordsWithin x) {
        x.turn(1, 0, 2, 2);
        x.end(0, 0);
        x.turn(0, 0, 1, 1);
        x.turn(0, 0, 1, 0);
        x.see(12, 1);
        x.see(0, 0);
        x.seed(1234567890123L);
        x.wipe();
        Look.write(x, "W12p0a0q0a0P0q1b1Q1");
        return x;
    }

    private static WordsWithin richWithin() {
        return within(rich());
    }

    private static WordsWithin notKeptWithin() {
        return within(notKept());
    }

    private static WordsWithin within(WordsWithin x) {
        for (int from = 0; from < 3; from++) {
            x.turn(1, from, 1, 0);
            x.turn(1, from, 2, 0);
        }
        x.turn(1, 2, 1, 0);
        return x;
    }

    private static WordsWithin richWithFault() {
        WordsWithin x = rich();
        Look.write(x, "Q");
        return x;
    }

    private static WordsWithin richWithoutText() {
        WordsWithin x = rich();
        x.wipe();
        return x;
    }

    private static WordsWithin fullText() {
        WordsWithin x = rich();
        for (int length = x.count(0); length < 80; length++) {
            x.write('p');
        }
        return x;
    }

    private static WordsWithin fullSeen() {
        WordsWithin x = rich();
        int[] words = {1, 2, 21, 222222222};
        for (int word : words) {
            x.see(word, 0);
        }
        return x;
    }

    private static WordsWithin fullActs() {
        WordsWithin x = rich();
        for (int act = 0; act < 12; act++) {
            x.turn(1, act % 3, 1, act / 3 % 3);
        }
        return x;
    }

    private static WordsWithin firstKept() {
        WordsWithin x = notKept();
        x.keep(0);
        x.end(1, 0);
        return x;
    }

    private static WordsWithin secondKept() {
        WordsWithin x = notKept();
        x.keep(1);
        x.end(1, 0);
        return x;
    }

    private static WordsWithin noActs() {
        WordsWithin x = rich();
        x.again(0);
        return x;
    }

    // ---- what a call changed

    private static void same(Supplier<WordsWithin> like, String call, Call c) {
        WordsWithin x = like.get();
        c.of(x);
        Map<String, List<Long>> want = Look.parts(like.get());
        Map<String, List<Long>> got = Look.parts(x);
        for (String part : want.keySet()) {
            S.must(call + " leaves the " + part, got.get(part).equals(want.get(part)));
        }
    }

    private static void refused(Supplier<WordsWithin> like, String call, long want, Call c) {
        S.due(call, c.of(like.get()), want);
        same(like, call, c);
    }

    /** With SLOTS that are kept, and with none. */
    private static void refused(String call, long want, Call c) {
        refused(RefusalBounds::rich, call, want, c);
        refused(RefusalBounds::notKept, call, want, c);
    }

    private static void told(String call, Call c) {
        same(RefusalBounds::rich, call, c);
        same(RefusalBounds::richWithin, call, c);
        same(RefusalBounds::notKept, call, c);
        same(RefusalBounds::notKeptWithin, call, c);
    }

    /** These parts are other ones, and no more of them. */
    private static void changes(Supplier<WordsWithin> like, String call, Call c, Set<String> those) {
        WordsWithin x = like.get();
        c.of(x);
        Map<String, List<Long>> was = Look.parts(like.get());
        Map<String, List<Long>> is = Look.parts(x);
        for (String part : was.keySet()) {
            S.must(call + (those.contains(part) ? " changes the " : " leaves the ") + part,
                is.get(part).equals(was.get(part)) != those.contains(part));
        }
    }

    private static void changes(String call, Call c, String... those) {
        changes(RefusalBounds::rich, call, c, Set.of(those));
        changes(RefusalBounds::notKept, call, c, Set.of(those));
    }

    // ---- refusals

    private static void firstNamed() {
        S.of("Terms", "REFUSALS, of several the first that a call names");
        S.due("write(256), there are 80", fullText().write(256), OUTSIDE);
        S.due("write(-1), there are 80", fullText().write(-1), OUTSIDE);
        S.due("takes(2, 3)", rich().takes(2, 3), UNKNOWN);
        S.due("takes(-1, -1)", rich().takes(-1, -1), UNKNOWN);
        S.due("after(2, 3)", rich().after(2, 3), UNKNOWN);
        S.due("after(-1, -1)", rich().after(-1, -1), UNKNOWN);
        S.due("leftOut(2, 201)", rich().leftOut(2, 201), UNKNOWN);
        S.due("leftOut(-1, -1)", rich().leftOut(-1, -1), UNKNOWN);
        S.due("kept(3, -1)", rich().kept(3, -1), OUTSIDE);
        S.due("kept(-1, 999)", rich().kept(-1, 999), OUTSIDE);
        S.due("mended(2, 2)", rich().mended(2, 2), UNKNOWN);
        S.due("mended(-1, -1)", rich().mended(-1, -1), UNKNOWN);
        S.due("see(3, 0), there are 6", fullSeen().see(3, 0), OUTSIDE);
        S.due("see(1, 2), there are 6", fullSeen().see(1, 2), OUTSIDE);
        S.due("see(1, -1), there are 6", fullSeen().see(1, -1), OUTSIDE);
        S.due("share(3, true), no END", rich().share(3, true), UNKNOWN);
        S.due("share(-1, false), no END", rich().share(-1, false), UNKNOWN);
        S.due("again(2), none were kept", notKept().again(2), UNKNOWN);
        S.due("again(-1), none were kept", notKept().again(-1), UNKNOWN);
    }

    private static void refusedText() {
        S.of("Promise 2", "OUTSIDE; FULL: there are 80. (changes nothing)");
        refused("write(-1)", OUTSIDE, x -> x.write(-1));
        refused("write(256)", OUTSIDE, x -> x.write(256));
        refused("write('Q' + 256)", OUTSIDE, x -> x.write('Q' + 256));
        refused(RefusalBounds::fullText, "write('p') of 80", FULL, x -> x.write('p'));
        refused(RefusalBounds::fullText, "write('0') of 80", FULL, x -> x.write('0'));
        refused(RefusalBounds::fullText, "write(256) of 80", OUTSIDE, x -> x.write(256));
        refused(RefusalBounds::fullOfOne, "write('W') of 80", FULL, x -> x.write('W'));

        S.of("Promise 5", "STATE: a FAULT. (changes nothing)");
        refused(RefusalBounds::richWithFault, "machines()", STATE, x -> x.machines());
        refused(RefusalBounds::richWithoutText, "machines()", STATE, x -> x.machines());
        refused(RefusalBounds::fullText, "machines()", STATE, x -> x.machines());
        refused(WordsWithin::new, "machines() at first", STATE, x -> x.machines());
        refused(RefusalBounds::fullOfOne, "machines() of 80", STATE, x -> x.machines());
    }

    /** Nothing but a full text. */
    private static WordsWithin fullOfOne() {
        WordsWithin x = new WordsWithin();
        for (int length = 0; length < 80; length++) {
            x.write('W');
        }
        return x;
    }

    private static void refusedMachines() {
        S.of("Promise 6", "UNKNOWN: machine, from, by, to. (changes nothing)");
        refused("edge(2, 0, 1, 0)", UNKNOWN, x -> x.edge(2, 0, 1, 0));
        refused("edge(0, 2, 1, 0)", UNKNOWN, x -> x.edge(0, 2, 1, 0));
        refused("edge(0, 0, 3, 0)", UNKNOWN, x -> x.edge(0, 0, 3, 0));
        refused("edge(0, 0, 0, 0)", UNKNOWN, x -> x.edge(0, 0, 0, 0));
        refused("edge(0, 0, 1, 2)", UNKNOWN, x -> x.edge(0, 0, 1, 2));

        S.of("Promise 7", "UNKNOWN: machine, from, by, to. (changes nothing)");
        refused("turn(-1, 0, 1, 0)", UNKNOWN, x -> x.turn(-1, 0, 1, 0));
        refused("turn(2, 0, 1, 0)", UNKNOWN, x -> x.turn(2, 0, 1, 0));
        refused("turn(0, -1, 1, 0)", UNKNOWN, x -> x.turn(0, -1, 1, 0));
        refused("turn(0, 2, 1, 0)", UNKNOWN, x -> x.turn(0, 2, 1, 0));
        refused("turn(1, 3, 1, 0)", UNKNOWN, x -> x.turn(1, 3, 1, 0));
        refused("turn(0, 0, 0, 0)", UNKNOWN, x -> x.turn(0, 0, 0, 0));
        refused("turn(0, 0, 3, 0)", UNKNOWN, x -> x.turn(0, 0, 3, 0));
        refused("turn(0, 0, 1, -1)", UNKNOWN, x -> x.turn(0, 0, 1, -1));
        refused("turn(0, 0, 1, 2)", UNKNOWN, x -> x.turn(0, 0, 1, 2));
        refused("turn(1, 0, 1, 3)", UNKNOWN, x -> x.turn(1, 0, 1, 3));
        refused("turn(1, 0, 1, 32)", UNKNOWN, x -> x.turn(1, 0, 1, 32));
        refused(RefusalBounds::fullActs, "turn(0, 2, 1, 0) of 14 ACTS", UNKNOWN, x -> x.turn(0, 2, 1, 0));

        S.of("Promise 8", "UNKNOWN: machine, state. (changes nothing)");
        refused("end(-1, 0)", UNKNOWN, x -> x.end(-1, 0));
        refused("end(2, 0)", UNKNOWN, x -> x.end(2, 0));
        refused("end(0, -1)", UNKNOWN, x -> x.end(0, -1));
        refused("end(0, 2)", UNKNOWN, x -> x.end(0, 2));
        refused("end(1, 3)", UNKNOWN, x -> x.end(1, 3));
        refused("end(1, 32)", UNKNOWN, x -> x.end(1, 32));
        refused(RefusalBounds::fullActs, "end(1, 3) of 14 ACTS", UNKNOWN, x -> x.end(1, 3));
    }

    private static void refusedActs() {
        S.of("Promise 9", "STATE: there is none. (changes nothing)");
        refused(RefusalBounds::noActs, "undo()", STATE, x -> x.undo());
        refused(WordsWithin::new, "undo() at first", STATE, x -> x.undo());
    }

    private static void refusedWords() {
        S.of("Promise 10", "UNKNOWN: machine; OUTSIDE: word. (changes nothing)");
        refused("takes(2, 1)", UNKNOWN, x -> x.takes(2, 1));
        refused("takes(0, 3)", OUTSIDE, x -> x.takes(0, 3));

        S.of("Promise 11", "UNKNOWN; OUTSIDE. (changes nothing)");
        refused("after(-1, 1)", UNKNOWN, x -> x.after(-1, 1));
        refused("after(1, 10)", OUTSIDE, x -> x.after(1, 10));

        S.of("Promise 12", "OUTSIDE: n, what. (changes nothing)");
        refused("many(10, 0)", OUTSIDE, x -> x.many(10, 0));
        refused("many(-1, 0)", OUTSIDE, x -> x.many(-1, 0));
        refused("many(0, 4)", OUTSIDE, x -> x.many(0, 4));

        S.of("Promise 14", "OUTSIDE: k. (changes nothing)");
        refused("missing(-1)", OUTSIDE, x -> x.missing(-1));
        refused("missing(201)", OUTSIDE, x -> x.missing(201));

        S.of("Promise 15", "UNKNOWN: machine; OUTSIDE: k. (changes nothing)");
        refused("leftOut(2, 0)", UNKNOWN, x -> x.leftOut(2, 0));
        refused("leftOut(0, 201)", OUTSIDE, x -> x.leftOut(0, 201));

        S.of("Promise 16", "UNKNOWN: machine, state, other (a MACHINE), its state. (changes nothing)");
        refused("follows(2, 0, 0, 0)", UNKNOWN, x -> x.follows(2, 0, 0, 0));
        refused("follows(0, 2, 0, 0)", UNKNOWN, x -> x.follows(0, 2, 0, 0));
        refused("follows(0, 0, 2, 0)", UNKNOWN, x -> x.follows(0, 0, 2, 0));
        refused("follows(0, 0, 1, 3)", UNKNOWN, x -> x.follows(0, 0, 1, 3));
    }

    private static void refusedSearches() {
        S.of("Promise 17", "OUTSIDE: mode, what. (changes nothing)");
        refused("search(3, 0)", OUTSIDE, x -> x.search(3, 0));
        refused("search(0, 5)", OUTSIDE, x -> x.search(0, 5));

        S.of("Promise 18", "OUTSIDE: mode; UNKNOWN: pair. (changes nothing)");
        refused("kept(3, 0)", OUTSIDE, x -> x.kept(3, 0));
        refused("kept(0, 999)", UNKNOWN, x -> x.kept(0, 999));
        refused("kept(2, -1)", UNKNOWN, x -> x.kept(2, -1));

        S.of("Promise 19", "OUTSIDE: mode, k. (changes nothing)");
        refused("found(3, 0)", OUTSIDE, x -> x.found(3, 0));
        refused("found(0, 201)", OUTSIDE, x -> x.found(0, 201));

        S.of("Promise 20", "UNKNOWN: machine; OUTSIDE. (changes nothing)");
        refused("mended(2, 0)", UNKNOWN, x -> x.mended(2, 0));
        refused("mended(1, 2)", OUTSIDE, x -> x.mended(1, 2));

        S.of("Promise 21", "OUTSIDE: n, row (0 or more, 5 n figures at most). (changes nothing)");
        refused("judge(0, 20000)", OUTSIDE, x -> x.judge(0, 20000));
        refused("judge(4, 20000)", OUTSIDE, x -> x.judge(4, 20000));
        refused("judge(1, 120000)", OUTSIDE, x -> x.judge(1, 120000));
        refused("judge(2, 12000020000)", OUTSIDE, x -> x.judge(2, 12000020000L));
        refused("judge(1, -20000)", OUTSIDE, x -> x.judge(1, -20000));
    }

    private static void refusedSeen() {
        S.of("Promise 22", "OUTSIDE: word, was (0, 1); FULL: 6. (changes nothing)");
        refused("see(3, 1)", OUTSIDE, x -> x.see(3, 1));
        refused("see(-1, 1)", OUTSIDE, x -> x.see(-1, 1));
        refused("see(1, 2)", OUTSIDE, x -> x.see(1, 2));
        refused("see(1, -1)", OUTSIDE, x -> x.see(1, -1));
        refused(RefusalBounds::fullSeen, "see(1, 1) of 6", FULL, x -> x.see(1, 1));
        refused(RefusalBounds::fullSeen, "see(0, 0) of 6", FULL, x -> x.see(0, 0));
        refused(RefusalBounds::fullSeen, "see(3, 0) of 6", OUTSIDE, x -> x.see(3, 0));
        refused(RefusalBounds::sixSeen, "see(1, 1) of 6", FULL, x -> x.see(1, 1));
    }

    /** Nothing but six that are SEEN. */
    private static WordsWithin sixSeen() {
        WordsWithin x = new WordsWithin();
        for (int many = 0; many < 6; many++) {
            x.see(0, 0);
        }
        return x;
    }

    private static void refusedSlots() {
        S.of("Promise 25", "UNKNOWN; STATE: it is no END. (changes nothing)");
        refused("share(3, true)", UNKNOWN, x -> x.share(3, true));
        refused("share(-1, true)", UNKNOWN, x -> x.share(-1, true));
        refused("share(1, true)", STATE, x -> x.share(1, true));
        refused("share(1, false)", STATE, x -> x.share(1, false));

        S.of("Promise 26", "LOST. OUTSIDE: x. (changes nothing)");
        refused("lost(11, true)", OUTSIDE, x -> x.lost(11, true));
        refused("lost(-1, false)", OUTSIDE, x -> x.lost(-1, false));

        S.of("Promise 28", "DRAWN. OUTSIDE: m. (changes nothing, THE SEED neither)");
        refused("drawn(0)", OUTSIDE, x -> x.drawn(0));
        refused("drawn(-1)", OUTSIDE, x -> x.drawn(-1));
        refused("drawn(21)", OUTSIDE, x -> x.drawn(21));

        S.of("Promise 29", "UNKNOWN. (changes nothing)");
        refused("keep(-1)", UNKNOWN, x -> x.keep(-1));
        refused("keep(2)", UNKNOWN, x -> x.keep(2));

        S.of("Promise 30", "UNKNOWN; STATE: none were kept. (changes nothing, THE ROW of ACTS neither)");
        refused("again(-1)", UNKNOWN, x -> x.again(-1));
        refused("again(2)", UNKNOWN, x -> x.again(2));
        refused(RefusalBounds::notKept, "again(0)", STATE, x -> x.again(0));
        refused(RefusalBounds::notKept, "again(1)", STATE, x -> x.again(1));
        refused(RefusalBounds::secondKept, "again(0), 1 was kept", STATE, x -> x.again(0));
        refused(RefusalBounds::firstKept, "again(1), 0 was kept", STATE, x -> x.again(1));

        S.of("Promise 31", "OUTSIDE. (changes nothing)");
        refused("count(-1)", OUTSIDE, x -> x.count(-1));
        refused("count(9)", OUTSIDE, x -> x.count(9));
    }

    /** Without a look, that would count itself. */
    private static void countsOnly() {
        S.of("Promise 31", "0 letters of THE TEXT, 1 STATES of MACHINE 0, 2 of MACHINE 1, 3 EDGES of MACHINE 0,"
            + " 4 of MACHINE 1, 5 ENDS of MACHINE 0 (bits), 6 of MACHINE 1 (bits), 7 ACTS in the row, 8 SEEN."
            + " (it is only told)");
        for (int what = -1; what <= 9; what++) {
            WordsWithin x = new WordsWithin();
            x.end(0, 0);
            x.turn(1, 0, 1, 0);
            x.see(0, 1);
            x.see(1, 0);
            x.seed(77);
            x.keep(1);
            Look.write(x, "W12p0a0q0a0Q1");
            x.count(what);
            String behind = " behind count(" + what + ")";
            S.due("seed()" + behind, x.seed(0), 77);
            S.due("which()" + behind, x.which(), 1);
            S.due("takes(0, 0)" + behind, x.takes(0, 0), 1);
            S.due("edge(1, 0, 1, 0)" + behind, x.edge(1, 0, 1, 0), 1);
            S.due("fault()" + behind, x.fault(), NONE);
            S.due("undo()" + behind, x.undo(), 1);
            S.due("undo()" + behind, x.undo(), 0);
            S.due("undo()" + behind, x.undo(), STATE);
            S.due("again(0)" + behind, x.again(0), STATE);
            S.due("again(1)" + behind, x.again(1), 1);
            S.due("takes(0, 0)" + behind, x.takes(0, 0), 1);
            S.due("machines()" + behind, x.machines(), 2);
            S.due("unsee()" + behind, x.unsee(), 2);
            S.due("wipe()" + behind, x.wipe(), 13);
        }
    }

    // ---- calls that only tell

    private static void onlyTold() {
        S.of("Terms 2", "In what follows nothing is changed.");
        told("within()", x -> x.within());
        told("missing(0)", x -> x.missing(0));
        told("missing(1)", x -> x.missing(1));
        told("leftOut(0, 0)", x -> x.leftOut(0, 0));
        told("leftOut(1, 1)", x -> x.leftOut(1, 1));
        told("follows(0, 0, 1, 0)", x -> x.follows(0, 0, 1, 0));
        for (int mode = 0; mode < 3; mode++) {
            int by = mode;
            for (int what = 0; what < 5; what++) {
                int which = what;
                told("search(" + by + ", " + which + ")", x -> x.search(by, which));
            }
            told("kept(" + by + ", 0)", x -> x.kept(by, 0));
            told("found(" + by + ", 0)", x -> x.found(by, 0));
            told("found(" + by + ", 1)", x -> x.found(by, 1));
        }
        for (int machine = 0; machine < 2; machine++) {
            int whose = machine;
            told("mended(" + whose + ", 0)", x -> x.mended(whose, 0));
            told("mended(" + whose + ", 1)", x -> x.mended(whose, 1));
        }
        told("judge(1, 10010), an EDGE", x -> x.judge(1, 10010));
        told("judge(1, 21200), an END", x -> x.judge(1, 21200));
        told("judge(3, 100112010040001)", x -> x.judge(3, 100112010040001L));
        told("judge(3, 100112010090000), with what can not be", x -> x.judge(3, 100112010090000L));
        S.due("within(), told of both", rich().within() + 10 * richWithin().within(), 10);

        S.of("Promise 4", "FAULT; NONE. (it is only told)");
        told("fault() of none", x -> x.fault());
        refused(RefusalBounds::richWithFault, "fault()", 20, x -> x.fault());
        refused(RefusalBounds::rich, "fault()", NONE, x -> x.fault());

        S.of("Promise 10", "1 if a MACHINE TAKES a WORD, 0. (it is only told)");
        told("edge(0, 0, 1, 1)", x -> x.edge(0, 0, 1, 1));
        told("takes(0, 121)", x -> x.takes(0, 121));
        told("after(1, 222222222)", x -> x.after(1, 222222222));
        told("many(9, 0)", x -> x.many(9, 0));
        told("many(3, 3)", x -> x.many(3, 3));

        S.of("Promise 24", "WHICH. (it is only told)");
        told("which()", x -> x.which());
        told("share(0, true)", x -> x.share(0, true));
        told("share(0, false)", x -> x.share(0, false));
        told("lost(3, true)", x -> x.lost(3, true));
        told("lost(10, false)", x -> x.lost(10, false));
    }

    // ---- calls that change something

    private static void onlyTheText() {
        S.of("Promise 2", "A letter (0 to 255) comes behind THE TEXT: how long it is. (and nothing else)");
        changes("write('P')", x -> x.write('P'), "text");
        changes("write(0)", x -> x.write(0), "text");

        S.of("Promise 3", "THE TEXT is empty: how long it was. (and nothing else)");
        changes("wipe()", x -> x.wipe(), "text");

        S.of("Promise 5", "(THE ROW of ACTS is empty, what was kept is gone; SEEN, THE SEED stay) (and THE TEXT)");
        changes(RefusalBounds::rich, "machines()", x -> x.machines(), Set.of("machines", "acts", "slot 0", "slot 1"));
        changes(RefusalBounds::notKept, "machines()", x -> x.machines(), Set.of("machines", "acts"));
        changes(RefusalBounds::firstKept, "machines()", x -> x.machines(), Set.of("machines", "acts", "slot 0"));
    }

    private static void onlyTheMachines() {
        S.of("Promise 7", "An EDGE is TURNED: 1 if it is there then, 0. (and it is an ACT)");
        changes("turn(1, 2, 2, 2)", x -> x.turn(1, 2, 2, 2), "machines", "acts");
        changes("turn(0, 0, 1, 0)", x -> x.turn(0, 0, 1, 0), "machines", "acts");
        changes("turn(1, 2, 2, 2) twice", x -> x.turn(1, 2, 2, 2) + x.turn(1, 2, 2, 2), "acts");

        S.of("Promise 8", "An END is TURNED: 1 if it is one then, 0. (and it is an ACT)");
        changes("end(0, 1)", x -> x.end(0, 1), "machines", "acts");
        changes("end(1, 1)", x -> x.end(1, 1), "machines", "acts");
        changes("end(0, 1) twice", x -> x.end(0, 1) + x.end(0, 1), "acts");

        S.of("Promise 9", "The last ACT is undone: how many are left. (and nothing else)");
        changes("undo()", x -> x.undo(), "machines", "acts");
        changes("undo() twice", x -> x.undo() + x.undo(), "machines", "acts");
        same(RefusalBounds::rich, "turn() and undo()", x -> x.turn(1, 1, 1, 1) + x.undo());
        same(RefusalBounds::rich, "end() and undo()", x -> x.end(1, 1) + x.undo());

        S.of("Promise 29", "They are kept: how many EDGES both have. (and nothing else)");
        changes("keep(0)", x -> x.keep(0), "slot 0");
        changes("keep(1)", x -> x.keep(1), "slot 1");

        S.of("Promise 30", "They are as they were kept: how many EDGES both have. (and nothing else)");
        changes(RefusalBounds::rich, "again(0)", x -> x.again(0), Set.of("machines", "acts"));
        changes(RefusalBounds::rich, "again(1)", x -> x.again(1), Set.of("machines", "acts"));
        changes(RefusalBounds::firstKept, "again(0)", x -> x.again(0), Set.of("machines", "acts"));
        changes(RefusalBounds::secondKept, "again(1)", x -> x.again(1), Set.of("machines", "acts"));
    }

    private static void onlyTheRest() {
        S.of("Promise 22", "SEEN: how many there are. (and nothing else)");
        changes("see(1, 0)", x -> x.see(1, 0), "seen");
        changes("see(0, 1)", x -> x.see(0, 1), "seen");

        S.of("Promise 23", "Nothing is SEEN: how much there was. (and nothing else)");
        changes("unsee()", x -> x.unsee(), "seen");

        S.of("Promise 27", "THE SEED is v: what it was. (and nothing else)");
        changes("seed(5)", x -> x.seed(5), "seed");

        S.of("Terms 3", "(Nothing changes but THE SEED.)");
        changes("drawn(1)", x -> x.drawn(1), "seed");
        changes("drawn(20)", x -> x.drawn(20), "seed");
        told("drawn(20) and THE SEED again", x -> x.drawn(20) + x.seed(1234567890123L));
    }
}

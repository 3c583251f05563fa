import java.util.ArrayList;
import java.util.LinkedHashMap;
import java.util.List;
import java.util.Map;

/** What can be seen of an object; few calls, since an object is used for 512 at most. */
final class Look {
    private Look() {
    }

    static void write(WordsWithin x, String text) {
        for (char c : text.toCharArray()) {
            x.write(c);
        }
    }

    /** A new object with the MACHINES of a text that has no FAULT. */
    static WordsWithin made(String text) {
        WordsWithin x = new WordsWithin();
        write(x, text);
        if (x.machines() < 0) {
            throw new IllegalStateException("no MACHINES: " + text);
        }
        return x;
    }

    /** Both MACHINES: STATES, ENDS, each EDGE. */
    private static void machines(WordsWithin x, List<Long> seen) {
        for (int what = 1; what <= 6; what++) {
            seen.add((long) x.count(what));
        }
        for (int machine = 0; machine < 2; machine++) {
            int states = x.count(machine + 1);
            for (int from = 0; from < states; from++) {
                for (int by = 1; by <= 2; by++) {
                    for (int to = 0; to < states; to++) {
                        seen.add((long) x.edge(machine, from, by, to));
                    }
                }
            }
        }
    }

    /** All that can be seen without a change. */
    static List<Long> at(WordsWithin x) {
        List<Long> seen = new ArrayList<>();
        machines(x, seen);
        seen.add((long) x.count(0));
        seen.add((long) x.count(7));
        seen.add((long) x.count(8));
        seen.add((long) x.fault());
        seen.add((long) x.which());
        long seed = x.seed(0);
        x.seed(seed);
        seen.add(seed);
        return seen;
    }

    /**
     * All that an object holds, by its parts: both MACHINES, THE TEXT, THE SEED, THE ROW of ACTS
     * (each is undone), both SLOTS (it goes on from each), what is SEEN (by other MACHINES). The
     * object is used up by it.
     */
    static Map<String, List<Long>> parts(WordsWithin x) {
        Map<String, List<Long>> parts = new LinkedHashMap<>();
        parts.put("text", some(x.fault(), x.count(0)));
        long seed = x.seed(0);
        x.seed(seed);
        parts.put("seed", some(seed));
        List<Long> seen = some(x.count(8));
        List<Long> machines = new ArrayList<>();
        machines(x, machines);
        parts.put("machines", machines);
        parts.put("acts", acts(x));
        for (int slot = 0; slot < 2; slot++) {
            List<Long> kept = some(x.again(slot));
            if (kept.get(0) >= 0) {
                machines(x, kept);
            }
            parts.put("slot " + slot, kept);
        }
        parts.get("text").add((long) x.machines());
        if (x.fault() == WordsWithin.NONE) {
            machines(x, parts.get("text"));
        }
        parts.put("seen", seen);
        seen(x, seen);
        return parts;
    }

    private static List<Long> some(long... numbers) {
        List<Long> list = new ArrayList<>();
        for (long number : numbers) {
            list.add(number);
        }
        return list;
    }

    private static List<Long> acts(WordsWithin x) {
        List<Long> acts = some(x.count(7));
        for (int left = x.undo(); left >= 0; left = x.undo()) {
            acts.add((long) left);
            for (int what = 3; what <= 6; what++) {
                acts.add((long) x.count(what));
            }
        }
        return acts;
    }

    /** MACHINES that tell a from b, and how many letters a word has. */
    private static void seen(WordsWithin x, List<Long> seen) {
        x.wipe();
        write(x, "W45p0a1p1a2p2a3p3a0p0b0P3q0b1q1b2q2b3q3b4q4b0q0a0Q4Q1");
        x.machines();
        seen.add((long) x.which());
        x.end(0, 0);
        x.end(1, 0);
        x.end(1, 1);
        seen.add((long) x.which());
        seen.add((long) x.unsee());
    }
}

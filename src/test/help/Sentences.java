import java.util.LinkedHashSet;
import java.util.Set;

/** Sentences of the document, each with what is due by it; tells which of them do not hold. */
final class Sentences {
    private final Set<String> broken = new LinkedHashSet<>();
    private String now = "";
    private int told = 0;
    private int held = 0;
    private int wrong = 0;

    /** From here on what is due is due by these words of this section. */
    void of(String section, String words) {
        close();
        now = section + ": " + words;
        told++;
        held = 0;
    }

    void due(String call, long got, long want) {
        held++;
        if (got != want) {
            wrong++;
            broken.add(now);
            System.out.println(now + ": " + call + " answered " + got + ", due is " + want);
        }
    }

    void must(String what, boolean is) {
        held++;
        if (!is) {
            wrong++;
            broken.add(now);
            System.out.println(now + ": it is not so that " + what);
        }
    }

    /** A sentence against which nothing was held would be no test. */
    private void close() {
        if (told > 0 && held == 0) {
            wrong++;
            broken.add(now);
            System.out.println(now + ": nothing was held against it");
        }
    }

    void end() {
        close();
        if (wrong == 0) {
            System.out.println("all " + told + " sentences hold");
            return;
        }
        System.out.println(broken.size() + " of " + told + " sentences do not hold");
        System.exit(1);
    }
}

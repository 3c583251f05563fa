import com.sun.management.ThreadMXBean;
import java.lang.management.ManagementFactory;

/**
 * All calls of one run live in one room: a new object is small, and its calls make nothing. The
 * dearest machines there are, and every call of the face.
 */
public final class RoomChecks {
    private static final ThreadMXBean BEAN = (ThreadMXBean) ManagementFactory.getThreadMXBean();
    private static final long MOST_OBJECT = 40_000;
    private static final long MOST_CALLS = 4_000;
    /** 46 calls ahead and 33 each time, the first time among them: 475, and 512 are promised. */
    private static final int TIMES = 12;

    private static int sum;

    private static long made() {
        return BEAN.getThreadAllocatedBytes(Thread.currentThread().getId());
    }

    /** Both machines have all edges that the text has room for, and all the rest by turns. */
    private static WordsWithin dear() {
        WordsWithin x = new WordsWithin();
        for (char c : "W45".toCharArray()) {
            x.write(c);
        }
        x.machines();
        for (int from = 0; from < 5; from++) {
            for (int by = 1; by < 3; by++) {
                x.turn(0, from, by, (from + by) % 4);
                x.turn(0, from, by, (from + 2 * by) % 4);
                x.turn(1, from, by, (from * by + 1) % 5);
                x.turn(1, from, by, (from + by * 2 + 2) % 5);
            }
        }
        x.end(0, 3);
        x.end(1, 4);
        return x;
    }

    private static void all(WordsWithin x, int i) {
        sum += x.write('W') + x.fault() + x.machines() + x.wipe() + x.edge(0, 0, 1, 0);
        sum += x.turn(0, 0, 1, 0) + x.end(1, 0) + x.end(1, 0) + x.turn(0, 0, 1, 0) + x.undo();
        sum += x.takes(0, 121212121) + x.after(1, 121212121) + x.many(9, i & 3) + x.within() + x.missing(i % 5);
        sum += x.leftOut(1, 0) + x.follows(0, 0, 1, 0) + x.search(i % 3, i % 5) + x.kept(i % 3, i % 7);
        sum += x.found(i % 3, i % 4) + x.mended(0, 0) + x.mended(1, 1) + x.judge(3, 110122100140000L);
        sum += x.see(1212, 1) + x.which() + x.unsee() + x.share(4, true) + x.lost(3, false) + x.drawn(20);
        sum += (int) x.seed(i) + x.keep(0) + x.again(0) + x.count(6);
    }

    public static void main(String[] args) {
        WordsWithin x = dear();
        all(x, 0);
        long before = made();
        long empty = made() - before;
        before = made();
        for (int i = 0; i < TIMES; i++) {
            all(x, i);
        }
        long calls = made() - before - empty;
        before = made();
        WordsWithin y = new WordsWithin();
        long object = made() - before - empty;
        sum += y.count(0);
        boolean fits = calls <= MOST_CALLS && object <= MOST_OBJECT;
        System.out.println((fits ? "it fits" : "it does not fit") + ": an object " + object + " bytes, its calls "
            + calls);
        if (!fits) {
            System.exit(1);
        }
    }
}

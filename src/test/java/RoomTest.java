import com.sun.management.ThreadMXBean;
import java.lang.management.ManagementFactory;

/** All calls of one run live in one room: no call makes anything, and a new object is small. */
final class RoomTest {
    private static final Check CHECK = new Check("RoomTest");
    private static final ThreadMXBean BEAN = (ThreadMXBean) ManagementFactory.getThreadMXBean();
    private static final String TEXT = "k9 2 3 9;k5 0 1 0;k6 1 4 9;k4 0 9 2;k9 0 0 9;k9 0 0 9;s0 1;s1 2;s2 3;s0 2;h1 2 2;h2 3 1;"
        + "n3 0;y0 2 1;t1 2 5 1;t0 1 3 0;t0 4 9 0;t2 2 2 2;t2 1 1 4;t2 1 1 5;";

    public static void main(String[] args) {
        PocketLaws laws = new PocketLaws();
        // The machine itself makes things while it links code: the least of some rounds is the calls' own.
        long least = Long.MAX_VALUE;
        for (int round = 0; round < 5; round++) {
            long before = bytes();
            everyCall(laws);
            least = Math.min(least, bytes() - before);
        }
        CHECK.due("bytes made by calls", least, 0);
        long before = bytes();
        PocketLaws fresh = new PocketLaws();
        long size = bytes() - before;
        CHECK.holds("a new object has " + size + " bytes", size < 8000 && fresh.trace() == 0);
        CHECK.end();
    }

    private static long bytes() {
        return BEAN.getCurrentThreadAllocatedBytes();
    }

    private static void everyCall(PocketLaws x) {
        for (int i = 0; i < TEXT.length(); i++) {
            x.type(TEXT.charAt(i));
        }
        CHECK.holds("realm", x.realm() > 0);
        for (int t = -1; t < 7; t++) {
            x.stow(t);
            x.fixed(t);
            x.now(t);
            x.count(t);
            x.hoard(t);
            x.keep(t);
            x.night();
            for (int k = -1; k < 7; k++) {
                ofTwo(x, t, k);
            }
            x.undo();
        }
        x.back(0);
        x.type('?');
        x.realm();
        x.clear();
        x.trace();
    }

    private static void ofTwo(PocketLaws x, int t, int k) {
        x.pocket(k, t);
        x.thing(t, k);
        x.letsIn(k, t);
        x.moves(t, k);
        x.way(t, k, 0);
        x.way(t, k, 1);
        x.saves(t, k);
        x.drops(t, k);
        x.lay(t, k);
        x.stitches(k, t, 0);
        x.stitches(k, t, 1);
        x.odds(t, k, 3, 6, 0);
        x.rate(t, k);
    }
}

import com.sun.management.ThreadMXBean;
import java.lang.management.ManagementFactory;

/** All calls of a run live in one room, from which nothing is taken away: an object makes its rows, a call no more. */
public final class RoomTest {
    private static final Due due = new Due();
    private static final ThreadMXBean THREADS = (ThreadMXBean) ManagementFactory.getThreadMXBean();
    private static final int CALLS = 512;
    private static final long MOST_BYTES = 100_000;

    public static void main(String[] args) {
        run();
        long before = THREADS.getCurrentThreadAllocatedBytes();
        int answers = run();
        long made = THREADS.getCurrentThreadAllocatedBytes() - before;
        due.is("a run made " + made + " bytes, not above " + MOST_BYTES, made <= MOST_BYTES ? 1 : 0, 1);
        due.is("it sent, and found", answers > 0 ? 1 : 0, 1);
        due.end();
    }

    /** One object, and twice each kind of call that could be dear, over and over. */
    private static int run() {
        GarbleWords x = new GarbleWords();
        int answers = 0;
        for (int call = 0; call < CALLS; call += 16) {
            x.put(0x676f2f736f2f676fL);
            x.enter();
            x.put(0x676f2f736f2f676fL);
            x.costOf();
            answers += x.send();
            x.sendAgain();
            x.garble(0, 0, call % 26);
            x.received(0, 4);
            x.receivedSo(4);
            x.saves(0);
            answers += x.bestPhrase(2);
            x.set(GarbleWords.APART, 1);
            answers += x.left();
            x.save(call / 16 % 2);
            x.restore(0);
            x.undo();
        }
        return answers;
    }
}

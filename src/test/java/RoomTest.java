import com.sun.management.ThreadMXBean;
import java.lang.management.ManagementFactory;

/** That a run of dear calls stays within its room, counted in bytes: none of its fields and elements has less than one. */
public final class RoomTest {
    private static final int CALLS = 512;
    private static final long MOST_BYTES = 7_300_000;

    private static final ThreadMXBean THREADS = (ThreadMXBean) ManagementFactory.getThreadMXBean();
    private static final long ME = Thread.currentThread().getId();
    private static long answers = 0;

    public static void main(String[] args) {
        Check.due("bytes can be counted here", THREADS.isThreadAllocatedMemorySupported() ? 1 : 0, 1);
        THREADS.setThreadAllocatedMemoryEnabled(true);
        // The machine itself makes some objects when it meets a method for the first time.
        runAll(new CanalSteps());
        long before = THREADS.getThreadAllocatedBytes(ME);
        runAll(new CanalSteps());
        long bytes = THREADS.getThreadAllocatedBytes(ME) - before;
        Check.due("a run makes " + bytes + " bytes, within its room", bytes <= MOST_BYTES ? 1 : 0, 1);
        Check.due("something was asked", answers == 0 ? 0 : 1, 1);
        Check.end();
    }

    private static void runAll(CanalSteps x) {
        for (int i = 0; i < CALLS; i++) {
            answers += i < 60 ? x.type("b0>1@9;.9;x2;r3:1>0@5;".charAt(i % 22)) : oneCall(x, i);
        }
    }

    private static int oneCall(CanalSteps x, int i) {
        switch (i % 16) {
            case 0: return x.boat(1 + i % 6, i % 5, 5, 60);
            case 1: return x.perform();
            case 2: return x.bestTurn(0);
            case 3: return x.arrivesIn(0);
            case 4: return x.ifTicks(500, i % 4);
            case 5: return x.reason(i % 9);
            case 6: return x.pass(99);
            case 7: return x.undo();
            case 8: return x.keep();
            case 9: return x.restore();
            case 10: return x.turnLock(i % 5);
            case 11: return x.setDepth(i % 6, i % 90);
            case 12: return x.load(0, 1 + i % 60);
            case 13: return x.set(i % 3, 1 + i % 6);
            case 14: return x.pound(i % 6, i % 4) + x.lock(i % 5, i % 8) + x.boatOf(0, i % 10);
            default: return x.count(i % 14) + x.water(i % 2) + x.stopped(0);
        }
    }
}

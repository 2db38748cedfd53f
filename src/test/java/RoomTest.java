import com.sun.management.ThreadMXBean;
import java.lang.management.ManagementFactory;

/** The dearest calls, 512 of each on one object, stay far within the room that a run has. */
public final class RoomTest {
    private static final int CALLS = 512;
    // 7.3 million elements would be some 29 million bytes; a run shall take a small part of that.
    private static final long MOST_BYTES = 400_000;

    public static void main(String[] args) {
        for (int round = 0; round < 2; round++) {
            for (int kind = 0; kind < 6; kind++) {
                long bytes = run(kind);
                Due.holds("kind " + kind + " took " + bytes + " bytes", round == 0 || bytes < MOST_BYTES);
            }
        }
        Due.end("RoomTest");
    }

    private static long run(int kind) {
        ThreadMXBean threads = (ThreadMXBean) ManagementFactory.getThreadMXBean();
        long self = Thread.currentThread().getId();
        long before = threads.getThreadAllocatedBytes(self);
        TurnPort x = new TurnPort();
        x.sheet(0, 2, 24);
        for (int i = 0; i < 24; i++) {
            x.item(0, 2, i, i % 2 == 0 ? i % 8 : 1 + i / 2);
        }
        x.comes(0, 2, 0, 12);
        x.sheet(1, 2, 24);
        for (int i = 0; i < 24; i++) {
            x.item(1, 2, i, 23 - i);
        }
        for (int i = 0; i < CALLS; i++) {
            call(x, kind);
        }
        return threads.getThreadAllocatedBytes(self) - before;
    }

    private static void call(TurnPort x, int kind) {
        switch (kind) {
            case 0: x.comes(0, 2, 0, 12); break;
            case 1: x.cut(1, 2, 0, 24, 8); break;
            case 2: x.found(1, 2, 12, 8); break;
            case 3: x.order(1, 2, 12, 6, 5); break;
            case 4: x.ticks(500); break;
            default: Tapes.rule(x, 0, "c+l-t+4d-n+99f"); break;
        }
    }
}

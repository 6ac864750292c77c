import java.lang.management.ManagementFactory;

/** All rows are made with the object: as many of the dearest calls as it may be asked for make next to nothing. */
public final class RoomTest {
    // Of 512 calls of an object, 130 make its products and their forecasts, and one kind takes three calls a turn.
    private static final int TURNS = (512 - 130) / 3;
    private static final long MOST_BYTES = 64 * 1024;

    public static void main(String[] args) {
        for (int kind = 0; kind < 8; kind++) {
            made(kind);
        }
        Due.end();
    }

    private static void made(int kind) {
        LotFences x = new LotFences();
        for (int product = 0; product < 10; product++) {
            x.product(product % 4, 1 + product, 1 + product, product, 50 * product);
            for (int week = 0; week < 12; week++) {
                x.forecast(product, week, product * week);
            }
        }
        long before = bytes();
        for (int k = 0; k < TURNS; k++) {
            call(x, kind, k);
        }
        long made = bytes() - before;
        Due.due("calls of kind " + kind + " made " + made + " bytes: too many", made > MOST_BYTES ? 1 : 0, 0);
    }

    private static void call(LotFences x, int kind, int k) {
        switch (kind) {
            case 0: x.leastHours(); break;
            case 1: x.bestFence(12); break;
            case 2: x.weeks(30); break;
            case 3: x.plan(); break;
            case 4: x.set(k % 3, 8); break;
            case 5: x.undo(); x.save(k % 2); x.restore(k % 2); break;
            case 6: x.put(0x6e33303b6e33303bL); x.put(0x70); x.carryOut(); break;
            default: x.put(0x703b703b703b703bL); x.fault(); x.wipe(); break;
        }
    }

    private static long bytes() {
        com.sun.management.ThreadMXBean threads =
            (com.sun.management.ThreadMXBean) ManagementFactory.getThreadMXBean();
        return threads.getCurrentThreadAllocatedBytes();
    }
}

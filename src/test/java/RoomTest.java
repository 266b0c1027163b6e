import com.sun.management.ThreadMXBean;
import java.lang.management.ManagementFactory;

/** A rack makes its rows as it and its shelves are made, and next to nothing later. */
public final class RoomTest {
    private static final ThreadMXBean THREADS = (ThreadMXBean) ManagementFactory.getThreadMXBean();
    private static final int INT_BYTES = 4;

    public static void main(String[] args) {
        Script script = new Script();
        // Once unmeasured, so that the loading of classes is not counted.
        for (int way = 0; way <= 5; way++) {
            bytesOfCalls(filledRack(way));
        }
        for (int way = 0; way <= 5; way++) {
            long before = THREADS.getCurrentThreadAllocatedBytes();
            PolicyRack rack = filledRack(way);
            long made = THREADS.getCurrentThreadAllocatedBytes() - before;
            // A thousandth of the room: far more runs of 512 calls fit in than one.
            script.same("way " + way + ": " + made + " bytes made at first are too many", "false",
                    Boolean.toString(made > 7300 * 2 * INT_BYTES));
            long later = bytesOfCalls(rack);
            script.same("way " + way + ": " + later + " bytes made by calls are too many", "false",
                    Boolean.toString(later > 1000));
        }
        script.end();
    }

    private static PolicyRack filledRack(int way) {
        PolicyRack rack = new PolicyRack();
        for (int i = 0; i < 8; i++) {
            rack.shelf(way, 64, 32, 64);
        }
        return rack;
    }

    private static long bytesOfCalls(PolicyRack rack) {
        long before = THREADS.getCurrentThreadAllocatedBytes();
        for (int i = 0; i < 300; i++) {
            rack.use(i * i % 199);
        }
        for (int i = 0; i < 20; i++) {
            rack.put(i % 8, i, i);
            rack.drop(i % 8, i);
            rack.has(i % 8, i);
            rack.victim(i % 8);
            rack.list(i % 8, 0, i);
            rack.told(i % 8, i % 8);
            rack.distance(i);
            rack.curve(1 + i);
            rack.optimum(1 + i);
            rack.count(i % 3);
        }
        rack.clear();
        return THREADS.getCurrentThreadAllocatedBytes() - before;
    }
}

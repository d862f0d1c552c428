import com.sun.management.ThreadMXBean;
import java.lang.management.ManagementFactory;

/** A run of 512 calls stays far below the room that all of it shares, and no call throws. */
public final class RoomTest {
    /** The room has 7.3 million fields and elements; this is less than four bytes for each. */
    private static final long MOST_BYTES = 16_000_000;

    public static void main(String[] args) {
        Due due = new Due();
        busyRun();
        long before = allocated();
        busyRun();
        long used = allocated() - before;
        due.yes("bytes of a busy run of 512 calls: " + used, used < MOST_BYTES);
        strangeArguments(due);
        due.end();
    }

    private static long allocated() {
        ThreadMXBean threads = (ThreadMXBean) ManagementFactory.getThreadMXBean();
        return threads.getCurrentThreadAllocatedBytes();
    }

    private static void busyRun() {
        ManagedBus bus = new ManagedBus();
        for (int i = 0; i < 512; i++) {
            switch (i % 8) {
                case 0: bus.plug(2 + i / 8 % 5, i / 16 % 2, i); break;
                case 1: bus.enumerate(i / 8 % 2); break;
                case 2: bus.tick(100); break;
                case 3: bus.sheet(0, i % 6); break;
                case 4: bus.ask(i / 8 % 2 == 0 ? 9 + i % 5 : 32 + i % 5, 1 + i % 32); break;
                case 5: bus.sensor(1 + i / 8 % 6, i % 2 == 0 ? 2000 : 0); break;
                case 6: bus.tick(100); break;
                default: bus.unplug(2 + i / 24 % 5); break;
            }
        }
    }

    /** All pairs of strange arguments for every call; each object has its 512 calls, no more. */
    private static void strangeArguments(Due due) {
        int[] some = {Integer.MIN_VALUE, -40001, -2, -1, 0, 1, 2, 6, 7, 8, 13, 24, 32, 64, 65536,
            Integer.MAX_VALUE};
        for (int a : some) {
            CountedBus bus = Benches.ready(1, 5, 6);
            Benches.setReceiver(bus, 32, 8);
            for (int b : some) {
                strangeCalls(bus, a, b);
            }
            bus.unplug(a);
            bus.enumerate(a);
            due.yes("the clock goes on", bus.tick(1) > 0);
        }
    }

    private static void strangeCalls(CountedBus bus, int a, int b) {
        bus.plug(a, b, a);
        bus.noise(a, b, b);
        bus.sheet(a, b);
        bus.ask(a, b);
        bus.sensor(a, b);
        bus.enumeration(a, b);
        bus.node(a, b);
        bus.sense(a, b);
        bus.block(a, b);
        bus.request(a, b);
        bus.answer(a, b);
        bus.event(a, b);
        bus.wire(a, b);
        bus.tick(b);
    }
}

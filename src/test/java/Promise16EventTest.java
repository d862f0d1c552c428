/** Promise 16: event. */
public final class Promise16EventTest {
    public static void main(String[] args) {
        Due due = new Due();
        wrongInputs(due);
        theLatestIsFirst(due);
        valuesWithSign(due);
        sixteenAreKept(due);
        oneForEachThatCame(due);
        due.end();
    }

    private static void eventIs(Due due, CountedBus bus, int k, int... want) {
        for (int what = 0; what < 3; what++) {
            due.is("event(" + k + ", " + what + ")", bus.event(k, what), want[what]);
        }
    }

    private static void wrongInputs(Due due) {
        CountedBus bus = Benches.ready(0, 5);
        Benches.setReceiver(bus, 9, 8);
        due.is("event(0, 0), before the first", bus.event(0, 0), -40000);
        bus.sensor(2, 2000);
        due.is("event(0, 0), it has not come", bus.event(0, 0), -40000);
        bus.tick(1);
        eventIs(due, bus, 0, 9, 2, 2000);
        int[][] wrong = {{-1, 0}, {1, 0}, {15, 0}, {16, 0}, {0, -1}, {0, 3}, {Integer.MAX_VALUE, 0},
            {Integer.MIN_VALUE, 0}, {0, Integer.MAX_VALUE}, {0, Integer.MIN_VALUE}};
        for (int[] w : wrong) {
            due.is("event(" + w[0] + ", " + w[1] + ")", bus.event(w[0], w[1]), -40000);
        }
    }

    private static void theLatestIsFirst(Due due) {
        CountedBus bus = Benches.plugged(0, 5);
        bus.plug(3, 1, 6);
        bus.enumerate(0);
        bus.enumerate(1);
        bus.tick(10);
        Benches.setReceiver(bus, 9, 8);
        Benches.setReceiver(bus, 32, 8);
        bus.sensor(2, 2000);
        bus.sensor(3, -3000);
        bus.tick(3);
        eventIs(due, bus, 0, 32, 1, -3000);
        eventIs(due, bus, 1, 9, 2, 2000);
        bus.sensor(2, 500);
        bus.tick(1);
        eventIs(due, bus, 0, 9, 0, 500);
        eventIs(due, bus, 1, 32, 1, -3000);
        eventIs(due, bus, 2, 9, 2, 2000);
        eventIs(due, bus, 3, -40000, -40000, -40000);
    }

    private static void valuesWithSign(Due due) {
        CountedBus bus = Benches.ready(0, 5);
        Benches.setReceiver(bus, 9, 8);
        int[] values = {32767, -32768, -1, 1001, -1001, 0, 1024, -1025, 255, 4096};
        int[] states = {2, 1, 0, 2, 1, 0, 2, 1, 0, 2};
        for (int i = 0; i < values.length; i++) {
            bus.sensor(2, values[i]);
            bus.tick(1);
            eventIs(due, bus, 0, 9, states[i], values[i]);
        }
    }

    /** Looked at before the log is full, when it just is, and long after. */
    private static void sixteenAreKept(Due due) {
        int[] counts = {1, 2, 15, 16, 17, 18, 31, 32, 33, 48, 49};
        for (int count : counts) {
            CountedBus bus = Benches.ready(0, 5);
            Benches.setReceiver(bus, 9, 8);
            for (int i = 0; i < count; i++) {
                bus.sensor(2, valueOf(i));
                bus.tick(1);
            }
            int kept = Math.min(count, 16);
            for (int k = 0; k < kept; k++) {
                int i = count - 1 - k;
                eventIs(due, bus, k, 9, i % 2 == 0 ? 2 : 0, valueOf(i));
            }
            eventIs(due, bus, kept, -40000, -40000, -40000);
        }
    }

    private static int valueOf(int i) {
        return i % 2 == 0 ? 2000 + i : i;
    }

    /** Of the same events two came: one of each device with the same endpoint. */
    private static void oneForEachThatCame(Due due) {
        CountedBus bus = Benches.ready(0, 5, 5);
        Benches.setReceiver(bus, 9, 8);
        bus.sensor(2, 2000);
        bus.sensor(3, 2000);
        bus.tick(2);
        eventIs(due, bus, 0, 9, 2, 2000);
        eventIs(due, bus, 1, 9, 2, 2000);
        eventIs(due, bus, 2, -40000, -40000, -40000);
        due.is("request(0, 0), an event answers nothing", bus.request(0, 0), 2);
        int r = Benches.ask(bus, 9, 99);
        bus.sensor(2, 0);
        bus.sensor(2, 2000);
        bus.tick(2);
        due.is("request(r, 0), an event with its tag answers nothing", bus.request(r, 0), 1);
    }
}

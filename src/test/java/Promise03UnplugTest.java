/** Promise 3: unplug. */
public final class Promise03UnplugTest {
    public static void main(String[] args) {
        Due due = new Due();
        unpluggedDeviceHasNothing(due);
        wrongInputsChangeNothing(due);
        itsOutputIsLost(due);
        nobodyTakesItsPackets(due);
        itIsNotEnumerated(due);
        due.end();
    }

    private static void unpluggedDeviceHasNothing(Due due) {
        for (int d = 2; d <= 6; d++) {
            CountedBus bus = new CountedBus();
            bus.plug(d, d % 2, 5);
            due.yes("unplug(" + d + ")", bus.unplug(d));
            for (int what = 0; what < 8; what++) {
                due.is("node(" + d + ", " + what + ")", bus.node(d, what), -1);
            }
            for (int what = 0; what < 7; what++) {
                due.is("sense(" + d + ", " + what + ")", bus.sense(d, what), 0);
            }
            due.is("block(" + d + ", 0)", bus.block(d, 0), -1);
            due.no("sensor(" + d + ", 1)", bus.sensor(d, 1));
        }
    }

    private static void wrongInputsChangeNothing(Due due) {
        CountedBus bus = new CountedBus();
        int[] noDevices = {-1, 0, 1, 7, Integer.MAX_VALUE, Integer.MIN_VALUE};
        for (int d : noDevices) {
            due.no("unplug(" + d + ")", bus.unplug(d));
        }
        due.no("unplug(2), never plugged", bus.unplug(2));
        due.is("node(0, 0)", bus.node(0, 0), 0);
        due.is("node(1, 0)", bus.node(1, 0), 0);
        bus.plug(2, 0, 5);
        bus.unplug(2);
        due.no("unplug(2) once more", bus.unplug(2));
        due.yes("plug(2, 0, 5)", bus.plug(2, 0, 5));
    }

    private static void itsOutputIsLost(Due due) {
        CountedBus bus = Benches.ready(0, 5);
        int r = Benches.ask(bus, 9, 1);
        bus.tick(1);
        due.is("node(2, 5), its answer waits", bus.node(2, 5), 1);
        bus.unplug(2);
        bus.tick(5);
        due.is("request(r, 0)", bus.request(r, 0), 1);
        bus.plug(2, 0, 5);
        bus.enumerate(0);
        bus.tick(12);
        due.is("request(r, 0), the answer does not come later", bus.request(r, 0), 1);
    }

    private static void nobodyTakesItsPackets(Due due) {
        CountedBus bus = Benches.ready(0, 5, 6);
        bus.unplug(2);
        Benches.ask(bus, 9, 1);
        bus.tick(1);
        due.is("node(0, 7)", bus.node(0, 7), 1);
        Benches.wireIs(due, bus, 0, 16, 9, 8, 192 + 8, 1);
        due.is("node(3, 4), the other one stays", bus.node(3, 4), 10);
        int r = Benches.ask(bus, 10, 1);
        Benches.answered(due, bus, r, 129, 0, 0, 0);
    }

    private static void itIsNotEnumerated(Due due) {
        CountedBus bus = Benches.plugged(1, 5, 6);
        bus.unplug(2);
        bus.enumerate(1);
        bus.tick(4);
        Benches.enumerationIs(due, bus, 1, 2, 1, 0);
        due.is("node(3, 4)", bus.node(3, 4), 32);
    }
}

/** Promise 2: plug. */
public final class Promise02PlugTest {
    public static void main(String[] args) {
        Due due = new Due();
        allDevicesOnBothBuses(due);
        wrongInputsChangeNothing(due);
        pluggedAnewAllIsAsAtFirst(due);
        pluggedAnewThereIsNoPart(due);
        pluggedAnewOnTheOtherBus(due);
        due.end();
    }

    private static void allDevicesOnBothBuses(Due due) {
        int[] identities = {0, 65535, 1000, 256, 255};
        for (int b = 0; b < 2; b++) {
            CountedBus bus = new CountedBus();
            for (int d = 2; d <= 6; d++) {
                due.yes("plug(" + d + ", " + b + ")", bus.plug(d, b, identities[d - 2]));
                int[] fresh = {b, identities[d - 2], 0, 0, 0, 0, 0, 0};
                for (int what = 0; what < 8; what++) {
                    due.is("node(" + d + ", " + what + ")", bus.node(d, what), fresh[what]);
                }
                sensorIsFresh(due, bus, d);
            }
        }
    }

    private static void sensorIsFresh(Due due, CountedBus bus, int d) {
        int[] sensor = {0, 0, -1000, 1000, 0, 0, 0};
        for (int what = 0; what < 7; what++) {
            due.is("sense(" + d + ", " + what + ")", bus.sense(d, what), sensor[what]);
        }
        for (int k = 0; k < 24; k++) {
            due.is("block(" + d + ", " + k + ")", bus.block(d, k), 0);
        }
    }

    private static void wrongInputsChangeNothing(Due due) {
        CountedBus bus = new CountedBus();
        int[] noDevices = {-1, 0, 1, 7, Integer.MAX_VALUE, Integer.MIN_VALUE};
        for (int d : noDevices) {
            due.no("plug(" + d + ", 0, 5)", bus.plug(d, 0, 5));
        }
        due.no("plug(2, -1, 5)", bus.plug(2, -1, 5));
        due.no("plug(2, 2, 5)", bus.plug(2, 2, 5));
        due.no("plug(2, 0, -1)", bus.plug(2, 0, -1));
        due.no("plug(2, 0, 65536)", bus.plug(2, 0, 65536));
        due.is("node(2, 0) after refusals", bus.node(2, 0), -1);
        due.is("node(1, 1) after refusals", bus.node(1, 1), 1000);
        due.yes("plug(2, 0, 5)", bus.plug(2, 0, 5));
        due.no("plug(2, 0, 5) once more", bus.plug(2, 0, 5));
        due.no("plug(2, 1, 6) while on bus 0", bus.plug(2, 1, 6));
        due.is("node(2, 0) after refusals", bus.node(2, 0), 0);
        due.is("node(2, 1) after refusals", bus.node(2, 1), 5);
    }

    private static void pluggedAnewAllIsAsAtFirst(Due due) {
        CountedBus bus = Benches.ready(0, 5);
        Benches.setReceiver(bus, 9, 8);
        Benches.setBounds(bus, 9, -7, 7, 3);
        Benches.ask(bus, 9, 5, 0, 1, 2, 3);
        bus.tick(12);
        bus.sensor(2, 50);
        bus.noise(0, 0, 1);
        bus.tick(1);
        due.is("node(2, 5) before", bus.node(2, 5), 1);
        due.is("node(2, 7) before", bus.node(2, 7), 1);
        due.is("node(2, 3) before", bus.node(2, 3), 1);
        due.is("sense(2, 6) before", bus.sense(2, 6), 1);
        due.is("block(2, 2) before", bus.block(2, 2), 3);
        bus.unplug(2);
        due.yes("plug(2, 0, 6)", bus.plug(2, 0, 6));
        int[] fresh = {0, 6, 0, 0, 0, 0, 0, 0};
        for (int what = 0; what < 8; what++) {
            due.is("node(2, " + what + ") plugged anew", bus.node(2, what), fresh[what]);
        }
        sensorIsFresh(due, bus, 2);
        bus.tick(5);
        due.is("event(0, 0), the event was lost", bus.event(0, 0), -40000);
    }

    private static void pluggedAnewThereIsNoPart(Due due) {
        CountedBus bus = Benches.ready(0, 5);
        Benches.ask(bus, 9, 5, 0, 1, 2, 3, 4, 5, 6, 7, 8);
        bus.tick(1);
        due.is("node(0, 5), the second packet waits", bus.node(0, 5), 1);
        bus.unplug(2);
        bus.plug(2, 0, 5);
        bus.enumerate(0);
        bus.tick(7);
        due.is("node(2, 4)", bus.node(2, 4), 9);
        bus.tick(1);
        due.is("node(0, 5), the second packet has gone", bus.node(0, 5), 0);
        due.is("node(2, 5), it is no message", bus.node(2, 5), 0);
        due.is("block(2, 0)", bus.block(2, 0), 0);
    }

    private static void pluggedAnewOnTheOtherBus(Due due) {
        CountedBus bus = Benches.ready(0, 5);
        bus.unplug(2);
        due.yes("plug(2, 1, 9)", bus.plug(2, 1, 9));
        due.is("node(2, 0)", bus.node(2, 0), 1);
        bus.enumerate(0);
        bus.enumerate(1);
        bus.tick(10);
        Benches.enumerationIs(due, bus, 0, 2, 1, 0);
        Benches.enumerationIs(due, bus, 1, 2, 1, 0);
        due.is("node(2, 4)", bus.node(2, 4), 32);
    }
}

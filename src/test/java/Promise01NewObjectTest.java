/** Promise 1: what a new object answers. */
public final class Promise01NewObjectTest {
    public static void main(String[] args) {
        Due due = new Due();
        nodesAtFirst(due, new CountedBus());
        busesAtFirst(due, new CountedBus());
        managerAtFirst(due, new CountedBus());
        sensorOfTheBridgeAtFirst(due, new CountedBus());
        objectsShareNothing(due);
        due.is("NONE", ManagedBus.NONE, -1);
        due.end();
    }

    private static void nodesAtFirst(Due due, CountedBus bus) {
        int[] manager = {0, 0, 8, 1, 8, 0, 0, 0};
        int[] bridge = {0, 1000, 0, 0, 0, 0, 0, 0};
        for (int what = 0; what < 8; what++) {
            due.is("node(0, " + what + ")", bus.node(0, what), manager[what]);
            due.is("node(1, " + what + ")", bus.node(1, what), bridge[what]);
            for (int d = 2; d <= 6; d++) {
                due.is("node(" + d + ", " + what + ")", bus.node(d, what), -1);
            }
        }
    }

    private static void busesAtFirst(Due due, CountedBus bus) {
        for (int b = 0; b < 2; b++) {
            for (int what = 0; what < 3; what++) {
                due.is("enumeration(" + b + ", " + what + ")", bus.enumeration(b, what), 0);
            }
            due.is("wire(" + b + ", NONE)", bus.wire(b, -1), 0);
            due.is("wire(" + b + ", 0)", bus.wire(b, 0), -1);
        }
        bus.tick(10);
        due.is("wire(0, NONE) after ticks with nothing to do", bus.wire(0, -1), 0);
        due.is("wire(1, NONE) after ticks with nothing to do", bus.wire(1, -1), 0);
        bus.enumerate(0);
        bus.tick(2);
        due.is("enumeration(0, 2), no noise at first", bus.enumeration(0, 2), 0);
        due.is("wire(0, 0), no noise at first", bus.wire(0, 0), 3);
    }

    private static void managerAtFirst(Due due, CountedBus bus) {
        due.is("request(0, 0)", bus.request(0, 0), -1);
        due.is("answer(0, 0)", bus.answer(0, 0), -1);
        due.is("event(0, 0)", bus.event(0, 0), -40000);
        due.is("tick(1), the clock is 0 at first", bus.tick(1), 1);
    }

    private static void sensorOfTheBridgeAtFirst(Due due, CountedBus bus) {
        int[] sensor = {0, 0, -1000, 1000, 0, 0, 0};
        for (int what = 0; what < 7; what++) {
            due.is("sense(1, " + what + ")", bus.sense(1, what), sensor[what]);
            due.is("sense(2, " + what + ")", bus.sense(2, what), 0);
        }
        for (int k = 0; k < 24; k++) {
            due.is("block(1, " + k + ")", bus.block(1, k), 0);
        }
        due.is("block(2, 0)", bus.block(2, 0), -1);
    }

    private static void objectsShareNothing(Due due) {
        CountedBus one = new CountedBus();
        CountedBus other = new CountedBus();
        one.plug(2, 0, 5);
        one.enumerate(0);
        one.tick(10);
        one.ask(9, 1);
        due.is("node(2, 0) of another object", other.node(2, 0), -1);
        due.is("enumeration(0, 0) of another object", other.enumeration(0, 0), 0);
        due.is("request(0, 0) of another object", other.request(0, 0), -1);
        due.is("tick(1) of another object", other.tick(1), 1);
    }
}

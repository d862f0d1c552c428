/** Promise 9: sensor, and the events that it makes. */
public final class Promise09SensorTest {
    public static void main(String[] args) {
        Due due = new Due();
        wrongInputsChangeNothing(due);
        statesAtTheBounds(due);
        slackHoldsAState(due);
        fromOneSideToTheOther(due);
        crossedBounds(due);
        eventsOnTheWire(due);
        noReceiverNoEvent(due);
        tagsOfEvents(due);
        withoutRoomTheCountGrows(due);
        newBoundsSense(due);
        eventsOfTheBridge(due);
        eventsThatNobodyGets(due);
        anEventToTheBridge(due);
        due.end();
    }

    private static void wrongInputsChangeNothing(Due due) {
        CountedBus bus = Benches.plugged(0, 5);
        int[] noNodes = {-1, 0, 3, 7, Integer.MAX_VALUE, Integer.MIN_VALUE};
        for (int d : noNodes) {
            due.no("sensor(" + d + ", 2000)", bus.sensor(d, 2000));
        }
        due.yes("sensor(2, 32767)", bus.sensor(2, 32767));
        due.no("sensor(2, 32768)", bus.sensor(2, 32768));
        due.no("sensor(2, -32769)", bus.sensor(2, -32769));
        due.is("sense(2, 0)", bus.sense(2, 0), 32767);
        due.is("sense(2, 1)", bus.sense(2, 1), 2);
        due.yes("sensor(2, -32768)", bus.sensor(2, -32768));
        due.is("sense(2, 0)", bus.sense(2, 0), -32768);
        due.is("sense(2, 1)", bus.sense(2, 1), 1);
        due.yes("sensor(1, 7)", bus.sensor(1, 7));
        due.is("sense(1, 0)", bus.sense(1, 0), 7);
        bus.plug(3, 1, 5);
        due.is("sense(3, 0)", bus.sense(3, 0), 0);
    }

    private static void states(Due due, CountedBus bus, int[]... valuesAndStates) {
        for (int[] pair : valuesAndStates) {
            bus.sensor(2, pair[0]);
            due.is("sense(2, 1) at " + pair[0], bus.sense(2, 1), pair[1]);
        }
    }

    private static void statesAtTheBounds(Due due) {
        CountedBus bus = Benches.plugged(0, 5);
        states(due, bus, new int[][] {{1000, 0}, {1001, 2}, {1000, 2}, {999, 0}, {1000, 0},
            {-1000, 0}, {-1001, 1}, {-1000, 1}, {-999, 0}, {-1000, 0}});
    }

    private static void slackHoldsAState(Due due) {
        CountedBus bus = Benches.ready(0, 5);
        Benches.setBounds(bus, 9, -10, 10, 4);
        states(due, bus, new int[][] {{6, 0}, {10, 0}, {11, 2}, {6, 2}, {5, 0}, {6, 0},
            {-6, 0}, {-10, 0}, {-11, 1}, {-6, 1}, {-5, 0}, {-6, 0}});
    }

    private static void fromOneSideToTheOther(Due due) {
        CountedBus bus = Benches.ready(0, 5);
        Benches.setBounds(bus, 9, -10, 10, 255);
        states(due, bus, new int[][] {{11, 2}, {-10, 2}, {-245, 2}, {-246, 1}, {10, 1}, {11, 2}, {-300, 1},
            {245, 2}});
    }

    /** With LOW above HIGH the state ABOVE comes first. */
    private static void crossedBounds(Due due) {
        CountedBus bus = Benches.ready(0, 5);
        Benches.setBounds(bus, 9, 10, -10, 0);
        due.is("sense(2, 2)", bus.sense(2, 2), 10);
        due.is("sense(2, 3)", bus.sense(2, 3), -10);
        due.is("sense(2, 1)", bus.sense(2, 1), 2);
        states(due, bus, new int[][] {{-10, 2}, {-11, 1}, {-10, 1}, {-9, 2}});
    }

    private static void eventsOnTheWire(Due due) {
        CountedBus bus = Benches.ready(0, 5);
        Benches.setReceiver(bus, 9, 8);
        bus.sensor(2, 0x1234);
        due.is("sense(2, 6)", bus.sense(2, 6), 1);
        due.is("node(2, 5)", bus.node(2, 5), 1);
        bus.tick(1);
        Benches.wireIs(due, bus, 0, 8, 8, 9, 200, 64, 2, 0x12, 0x34);
        bus.sensor(2, 0x1235);
        due.is("sense(2, 6), the same state", bus.sense(2, 6), 1);
        due.is("node(2, 5), the same state", bus.node(2, 5), 0);
        bus.sensor(2, -2000);
        bus.tick(1);
        Benches.wireIs(due, bus, 0, 8, 8, 9, 201, 64, 1, 0xf8, 0x30);
        bus.sensor(2, -3);
        bus.tick(1);
        Benches.wireIs(due, bus, 0, 8, 8, 9, 202, 64, 0, 0xff, 0xfd);
        due.is("sense(2, 6)", bus.sense(2, 6), 3);
    }

    private static void noReceiverNoEvent(Due due) {
        CountedBus bus = Benches.ready(0, 5);
        bus.sensor(2, 2000);
        due.is("sense(2, 1)", bus.sense(2, 1), 2);
        due.is("sense(2, 6)", bus.sense(2, 6), 0);
        due.is("node(2, 5)", bus.node(2, 5), 0);
        Benches.setReceiver(bus, 9, 8);
        due.is("sense(2, 6), a new receiver senses nothing", bus.sense(2, 6), 0);
        Benches.setReceiver(bus, 9, 0);
        bus.sensor(2, 0);
        due.is("sense(2, 6), no receiver any more", bus.sense(2, 6), 0);
    }

    private static void tagsOfEvents(Due due) {
        CountedBus bus = Benches.ready(0, 5);
        Benches.setReceiver(bus, 9, 8);
        for (int i = 0; i < 18; i++) {
            bus.sensor(2, i % 2 == 0 ? 2000 : 0);
            bus.tick(1);
            due.is("wire(0, 3)", bus.wire(0, 3), 200 + i % 8);
            due.is("sense(2, 6)", bus.sense(2, 6), i + 1);
        }
    }

    private static void withoutRoomTheCountGrows(Due due) {
        CountedBus bus = Benches.ready(0, 5);
        Benches.setReceiver(bus, 9, 8);
        for (int i = 0; i < 10; i++) {
            bus.sensor(2, i % 2 == 0 ? 2000 + i : -i);
        }
        due.is("node(2, 5)", bus.node(2, 5), 8);
        due.is("sense(2, 6)", bus.sense(2, 6), 10);
        bus.tick(8);
        due.is("event(0, 2), the eighth", bus.event(0, 2), -7);
        due.is("event(7, 2), the first", bus.event(7, 2), 2000);
        due.is("event(8, 2)", bus.event(8, 2), -40000);
    }

    private static void newBoundsSense(Due due) {
        CountedBus bus = Benches.ready(0, 5);
        Benches.setReceiver(bus, 9, 8);
        bus.sensor(2, 50);
        int r = Benches.ask(bus, 9, 2, 0, 0, 0, 40, 5);
        bus.tick(1);
        due.is("sense(2, 1)", bus.sense(2, 1), 2);
        due.is("node(2, 5), event and answer", bus.node(2, 5), 2);
        bus.tick(1);
        Benches.wireIs(due, bus, 0, 8, 8, 9, 200, 64, 2, 0, 50);
        due.is("request(r, 0), the event is first", bus.request(r, 0), 1);
        bus.tick(1);
        Benches.wireIs(due, bus, 0, 8, 8, 9, 193, 130);
        due.is("request(r, 0)", bus.request(r, 0), 2);
    }

    private static void eventsOfTheBridge(Due due) {
        CountedBus bus = Benches.ready(1, 5);
        Benches.setReceiver(bus, 9, 8);
        due.is("sense(1, 5)", bus.sense(1, 5), 8);
        due.yes("sensor(1, 1001)", bus.sensor(1, 1001));
        due.is("node(1, 5), on bus 0", bus.node(1, 5), 1);
        due.is("node(1, 6), not on bus 1", bus.node(1, 6), 0);
        bus.tick(1);
        due.is("event(0, 0)", bus.event(0, 0), 9);
        due.is("event(0, 2)", bus.event(0, 2), 1001);
    }

    /** What a device on bus 0 sends goes to the manager, whoever it is for. */
    private static void eventsThatNobodyGets(Due due) {
        int[] receivers = {9, 10, 32, 63, 64, 255};
        for (int receiver : receivers) {
            CountedBus near = Benches.ready(0, 5);
            Benches.setReceiver(near, 9, receiver);
            near.sensor(2, 2000);
            near.tick(1);
            Benches.wireIs(due, near, 0, 8, receiver, 9, 200, 64, 2, 7, 208);
            due.is("node(2, 5), taken", near.node(2, 5), 0);
            due.is("event(0, 0)", near.event(0, 0), -40000);
        }
        int[] far = {32, 33, 63, 255};
        for (int receiver : far) {
            CountedBus bus = Benches.ready(1, 5, 6);
            Benches.setReceiver(bus, 32, receiver);
            bus.sensor(2, 2000);
            bus.tick(1);
            Benches.wireIs(due, bus, 1, 8, receiver, 32, 200, 64, 2, 7, 208);
            due.is("node(1, 5), not handed on", bus.node(1, 5), 0);
            due.is("node(1, 6), not handed on", bus.node(1, 6), 0);
        }
        handedOnToBus0(due);
    }

    private static void handedOnToBus0(Due due) {
        int[] receivers = {8, 10, 31};
        for (int receiver : receivers) {
            CountedBus bus = Benches.ready(1, 5);
            Benches.setReceiver(bus, 32, receiver);
            bus.sensor(2, 2000);
            bus.tick(1);
            due.is("node(1, 5), handed on to bus 0", bus.node(1, 5), 1);
            bus.tick(1);
            Benches.wireIs(due, bus, 0, 8, receiver, 32, 200, 64, 2, 7, 208);
            due.is("event(0, 0)", bus.event(0, 0), receiver == 8 ? 32 : -40000);
        }
        theBridgeHasNoRoom(due);
    }

    private static void theBridgeHasNoRoom(Due due) {
        CountedBus bus = Benches.ready(1, 5);
        Benches.setReceiver(bus, 9, 8);
        Benches.setReceiver(bus, 32, 8);
        for (int i = 0; i < 8; i++) {
            bus.sensor(1, i % 2 == 0 ? 2000 : 0);
        }
        bus.sensor(2, 2000);
        bus.enumerate(0);
        bus.tick(1);
        due.is("node(2, 5), taken", bus.node(2, 5), 0);
        due.is("node(1, 5)", bus.node(1, 5), 8);
        bus.tick(20);
        for (int k = 0; k < 8; k++) {
            due.is("event(" + k + ", 0)", bus.event(k, 0), 9);
        }
        due.is("event(8, 0)", bus.event(8, 0), -40000);
    }

    /** The bridge takes an event for a message that it does not know. */
    private static void anEventToTheBridge(Due due) {
        CountedBus bus = Benches.ready(1, 5);
        Benches.setReceiver(bus, 32, 9);
        bus.sensor(2, 2000);
        bus.tick(1);
        due.is("node(1, 5)", bus.node(1, 5), 1);
        bus.tick(1);
        Benches.wireIs(due, bus, 0, 8, 32, 9, 192, 255);
    }
}

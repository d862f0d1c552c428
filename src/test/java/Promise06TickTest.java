/** Promise 6: tick, and the transactions of packets. */
public final class Promise06TickTest {
    public static void main(String[] args) {
        Due due = new Due();
        clockAndRefusals(due);
        manyTicksAreSingleOnes(due);
        bus0IsBeforeBus1(due);
        busesAreBeforeRequests(due);
        leastRowIsLeft(due);
        ofTheSameTheLeastNode(due);
        triesOfAPacket(due);
        nobodyHasTheAddress(due);
        theBridgeWaitsForBus0(due);
        farPacketsWaitForTheBridge(due);
        lastAddressOfTheBridgesIdentity(due);
        failedEnumerationKeepsTheBridgesAddress(due);
        staleAddressesTake(due);
        due.end();
    }

    private static void clockAndRefusals(Due due) {
        CountedBus bus = new CountedBus();
        due.is("tick(1)", bus.tick(1), 1);
        due.is("tick(100)", bus.tick(100), 101);
        int[] wrong = {0, -1, 101, Integer.MAX_VALUE, Integer.MIN_VALUE};
        for (int n : wrong) {
            due.is("tick(" + n + ")", bus.tick(n), -1);
        }
        due.is("tick(2) after refusals", bus.tick(2), 103);
    }

    private static void manyTicksAreSingleOnes(Due due) {
        CountedBus one = Benches.plugged(0, 5, 6, 7);
        CountedBus other = Benches.plugged(0, 5, 6, 7);
        one.enumerate(0);
        other.enumerate(0);
        one.tick(9);
        for (int i = 0; i < 9; i++) {
            other.tick(1);
        }
        for (int k = -1; k < 4; k++) {
            due.is("wire(0, " + k + ")", one.wire(0, k), other.wire(0, k));
        }
        due.is("enumeration(0, 1)", one.enumeration(0, 1), 4);
    }

    private static void bus0IsBeforeBus1(Due due) {
        CountedBus bus = Benches.ready(1, 5);
        int r = Benches.ask(bus, 32, 1);
        bus.tick(1);
        Benches.wireIs(due, bus, 0, 16, 32, 8, 200, 1);
        Benches.wireIs(due, bus, 1, 16, 32, 8, 200, 1);
        due.is("node(1, 6)", bus.node(1, 6), 0);
        due.is("node(2, 5)", bus.node(2, 5), 1);
        bus.tick(1);
        Benches.wireIs(due, bus, 1, 8, 8, 32, 192, 129, 0, 0, 0);
        due.is("node(1, 5), on bus 0 in the next tick", bus.node(1, 5), 1);
        due.is("request(r, 0)", bus.request(r, 0), 1);
        bus.tick(1);
        Benches.wireIs(due, bus, 0, 8, 8, 32, 192, 129, 0, 0, 0);
        due.is("request(r, 0)", bus.request(r, 0), 2);
    }

    private static void busesAreBeforeRequests(Due due) {
        CountedBus bus = Benches.ready(0, 5);
        int r = Benches.ask(bus, 9, 1);
        for (int i = 0; i < 4; i++) {
            bus.enumerate(0);
            bus.tick(7);
        }
        due.is("request(r, 2)", bus.request(r, 2), 2);
        bus.tick(2);
        due.is("request(r, 0), answered in its last tick", bus.request(r, 0), 2);
        due.is("request(r, 2)", bus.request(r, 2), 1);
        due.is("request(r, 3)", bus.request(r, 3), 1);
    }

    private static void leastRowIsLeft(Due due) {
        CountedBus bus = Benches.ready(0, 5, 6);
        Benches.setReceiver(bus, 9, 9);
        Benches.setReceiver(bus, 10, 8);
        bus.sensor(2, 2000);
        bus.sensor(3, 3000);
        Benches.ask(bus, 9, 1);
        bus.tick(1);
        Benches.wireIs(due, bus, 0, 8, 8, 10, 200, 64, 2, 11, 184);
        due.is("event(0, 0), target 8 before target 9", bus.event(0, 0), 10);
        bus.tick(1);
        Benches.wireIs(due, bus, 0, 8, 9, 9, 200, 64, 2, 7, 208);
        due.is("node(0, 5), address 16 comes last", bus.node(0, 5), 1);
        due.is("node(0, 7), who is not left has tried nothing", bus.node(0, 7), 0);
        bus.tick(1);
        due.is("node(0, 5)", bus.node(0, 5), 0);
    }

    private static void ofTheSameTheLeastNode(Due due) {
        CountedBus bus = Benches.ready(0, 5, 5);
        int r = Benches.ask(bus, 9, 1);
        bus.tick(1);
        due.is("node(2, 5)", bus.node(2, 5), 1);
        due.is("node(3, 5)", bus.node(3, 5), 1);
        bus.tick(1);
        due.is("node(2, 5)", bus.node(2, 5), 0);
        due.is("node(3, 5)", bus.node(3, 5), 1);
        due.is("request(r, 0)", bus.request(r, 0), 2);
        bus.tick(1);
        due.is("node(3, 5)", bus.node(3, 5), 0);
    }

    private static void triesOfAPacket(Due due) {
        CountedBus bus = Benches.ready(0, 5);
        Benches.ask(bus, 9, 1);
        Benches.ask(bus, 9, 1);
        for (int i = 1; i <= 2; i++) {
            bus.noise(0, 0, 8);
            bus.tick(1);
            due.is("node(0, 7)", bus.node(0, 7), i);
            due.is("node(0, 5)", bus.node(0, 5), 2);
        }
        bus.noise(0, 0, 8);
        bus.tick(1);
        due.is("node(0, 7), dropped", bus.node(0, 7), 0);
        due.is("node(0, 5), dropped", bus.node(0, 5), 1);
        bus.tick(1);
        due.is("wire(0, 3), the next one has tag 1", bus.wire(0, 3), 201);
        bus.tick(5);
        due.is("request(0, 0)", bus.request(0, 0), 1);
        due.is("request(1, 0)", bus.request(1, 0), 2);
        triesAreZeroAfterAGoodOne(due);
    }

    private static void triesAreZeroAfterAGoodOne(Due due) {
        CountedBus bus = Benches.ready(0, 5);
        Benches.ask(bus, 9, 1, 2, 3, 4, 5, 6, 7, 8, 9);
        for (int packet = 0; packet < 2; packet++) {
            bus.noise(0, 5, 8);
            bus.tick(1);
            bus.noise(0, 5, 8);
            bus.tick(1);
            due.is("node(0, 7)", bus.node(0, 7), 2);
            bus.tick(1);
            due.is("node(0, 7)", bus.node(0, 7), 0);
            due.is("node(0, 5)", bus.node(0, 5), 1 - packet);
        }
    }

    private static void nobodyHasTheAddress(Due due) {
        CountedBus bus = Benches.ready(0, 5);
        Benches.ask(bus, 31, 1);
        bus.tick(1);
        Benches.wireIs(due, bus, 0, 38, 31, 8, 200, 1);
        due.is("node(0, 7)", bus.node(0, 7), 1);
        bus.tick(1);
        due.is("node(0, 7)", bus.node(0, 7), 2);
        bus.tick(1);
        due.is("node(0, 7)", bus.node(0, 7), 0);
        due.is("node(0, 5)", bus.node(0, 5), 0);
        CountedBus far = Benches.ready(1, 5);
        Benches.ask(far, 63, 1);
        far.tick(2);
        Benches.wireIs(due, far, 1, 47, 63, 8, 200, 1);
        due.is("node(1, 6)", far.node(1, 6), 1);
        due.is("node(1, 7), tries of the other port", far.node(1, 7), 0);
        far.tick(1);
        due.is("node(1, 6)", far.node(1, 6), 0);
    }

    private static void theBridgeWaitsForBus0(Due due) {
        CountedBus bus = Benches.ready(1, 5);
        Benches.setReceiver(bus, 32, 8);
        due.is("sense(2, 5)", bus.sense(2, 5), 8);
        bus.sensor(2, 2000);
        bus.enumerate(0);
        bus.tick(1);
        due.is("node(2, 5), taken by the bridge", bus.node(2, 5), 0);
        due.is("node(1, 5), waits while bus 0 is enumerated", bus.node(1, 5), 1);
        bus.tick(3);
        due.is("node(1, 5)", bus.node(1, 5), 1);
        bus.tick(1);
        due.is("node(1, 5)", bus.node(1, 5), 0);
        due.is("event(0, 0)", bus.event(0, 0), 32);
    }

    private static void farPacketsWaitForTheBridge(Due due) {
        CountedBus bus = Benches.plugged(1, 5);
        bus.enumerate(1);
        bus.tick(4);
        Benches.ask(bus, 32, 1);
        Benches.ask(bus, 9, 1);
        bus.tick(10);
        due.is("wire(0, NONE), the first one has nowhere to go", bus.wire(0, -1), 0);
        due.is("node(0, 5)", bus.node(0, 5), 2);
        due.is("node(0, 7)", bus.node(0, 7), 0);
        bus.enumerate(0);
        bus.tick(5);
        Benches.wireIs(due, bus, 0, 16, 32, 8, 200, 1);
        bus.tick(4);
        due.is("request(0, 0)", bus.request(0, 0), 2);
        due.is("request(1, 0)", bus.request(1, 0), 2);
    }

    private static void lastAddressOfTheBridgesIdentity(Due due) {
        CountedBus bus = new CountedBus();
        bus.enumerate(0);
        bus.tick(3);
        bus.plug(2, 0, 1000);
        bus.tick(2);
        due.is("node(1, 2)", bus.node(1, 2), 16);
        due.is("node(2, 2)", bus.node(2, 2), 17);
        bus.tick(2);
        due.is("enumeration(0, 0)", bus.enumeration(0, 0), 2);
        Benches.ask(bus, 40, 1);
        bus.tick(1);
        due.is("wire(0, 0)", bus.wire(0, 0), 17);
        due.is("node(0, 5), device 2 has taken it", bus.node(0, 5), 0);
        due.is("node(1, 6), the bridge has not", bus.node(1, 6), 0);
        due.is("node(2, 5), it was not for device 2", bus.node(2, 5), 0);
    }

    private static void failedEnumerationKeepsTheBridgesAddress(Due due) {
        CountedBus bus = new CountedBus();
        bus.enumerate(0);
        bus.tick(4);
        bus.plug(2, 0, 5);
        bus.enumerate(0);
        bus.tick(5);
        due.is("node(1, 2), given anew", bus.node(1, 2), 17);
        for (int i = 0; i < 3; i++) {
            bus.noise(0, 0, 1);
            bus.tick(1);
        }
        due.is("enumeration(0, 0)", bus.enumeration(0, 0), 3);
        Benches.ask(bus, 40, 1);
        bus.tick(1);
        due.is("wire(0, 0), as the one that was done gave it", bus.wire(0, 0), 16);
        bus.enumerate(0);
        bus.tick(8);
        Benches.ask(bus, 40, 1);
        bus.tick(1);
        due.is("wire(0, 0), as the latest one gave it", bus.wire(0, 0), 17);
    }

    /** After an enumeration that failed two ports may have one address; both take. */
    private static void staleAddressesTake(Due due) {
        CountedBus bus = Benches.ready(1, 5);
        bus.plug(3, 1, 4);
        bus.enumerate(1);
        bus.tick(3);
        due.is("node(3, 2)", bus.node(3, 2), 16);
        due.is("node(2, 2)", bus.node(2, 2), 16);
        for (int i = 0; i < 3; i++) {
            bus.noise(1, 0, 1);
            bus.tick(1);
        }
        due.is("enumeration(1, 0)", bus.enumeration(1, 0), 3);
        int r = Benches.ask(bus, 32, 1);
        bus.tick(1);
        due.is("node(2, 5), its endpoint", bus.node(2, 5), 1);
        due.is("node(3, 5), not its endpoint", bus.node(3, 5), 0);
        Benches.answered(due, bus, r, 129, 0, 0, 0);
    }
}

/** Under "Terms": outputs that are full, rows of bytes, tries of a packet, and where packets go. */
public final class TermsPacketsTest {
    public static void main(String[] args) {
        Due due = new Due();
        allHaveRoomOrNone(due);
        eightEventsWait(due);
        inOrderThroughManyTurns(due);
        bridgeFullTowardsBus1(due);
        bridgeFullTowardsBus0(due);
        noRoomForTheBridgesOwnAnswer(due);
        thirdTryOfTheManager(due);
        thirdTryOfADevice(due);
        thirdTryOfTheBridgeOnBus0(due);
        thirdTryOfTheBridgeOnBus1(due);
        badAndNobodyCountAlike(due);
        sameRowsLeastNode(due);
        lessByTarget(due);
        lessBySource(due);
        lessByFlags(due);
        lessByBytes(due);
        whereNearPacketsGo(due);
        whereFarPacketsGo(due);
        handedOnOrNot(due);
        due.end();
    }

    /** So many packets wait, and a message of so many more comes: 8 are the most. */
    private static void allHaveRoomOrNone(Due due) {
        for (int waiting = 0; waiting <= 8; waiting++) {
            for (int n = 1; n <= 32; n++) {
                CountedBus bus = new CountedBus();
                for (int i = 0; i < waiting; i++) {
                    bus.ask(9, 1);
                }
                int packets = (n + 7) / 8;
                due.is("ask(9, " + n + ")", bus.ask(9, n), waiting);
                int want = waiting + packets <= 8 ? waiting + packets : waiting;
                due.is("node(0, 5), " + waiting + " and " + packets, bus.node(0, 5), want);
                due.is("request, it waits all the same", bus.request(waiting, 0), 1);
            }
        }
    }

    private static void eightEventsWait(Due due) {
        for (int b = 0; b < 2; b++) {
            CountedBus bus = Benches.ready(b, 5);
            Benches.setReceiver(bus, b == 0 ? 9 : 32, 8);
            for (int i = 1; i <= 10; i++) {
                bus.sensor(2, i % 2 == 1 ? 2000 + i : i);
                due.is("node(2, 5) after " + i, bus.node(2, 5), Math.min(i, 8));
                due.is("sense(2, 6) after " + i, bus.sense(2, 6), i);
            }
            bus.tick(1);
            due.is("node(2, 5)", bus.node(2, 5), 7);
            bus.sensor(2, 2011);
            due.is("node(2, 5), room for one again", bus.node(2, 5), 8);
            bus.tick(20);
            due.is("event(0, 2), the latest", bus.event(0, 2), 2011);
            due.is("event(1, 2), the eighth", bus.event(1, 2), 8);
            due.is("event(8, 2), the first", bus.event(8, 2), 2001);
            due.is("event(9, 2)", bus.event(9, 2), -40000);
        }
    }

    /** Packets leave in the order in which they came, long after the eighth. */
    private static void inOrderThroughManyTurns(Due due) {
        CountedBus bus = Benches.ready(0, 5);
        Benches.setReceiver(bus, 9, 7);
        int sent = 0;
        int told = 0;
        for (int turn = 0; turn < 6; turn++) {
            while (bus.node(2, 5) < 8) {
                sent++;
                bus.sensor(2, sent % 2 == 1 ? 2000 + sent : -sent);
            }
            for (int i = 0; i < 3 + turn % 3; i++) {
                told++;
                bus.tick(1);
                int value = told % 2 == 1 ? 2000 + told : -told;
                due.is("wire(0, 3)", bus.wire(0, 3), 200 + (told - 1) % 8);
                due.is("wire(0, 6)", bus.wire(0, 6), value >> 8 & 255);
                due.is("wire(0, 7)", bus.wire(0, 7), value & 255);
            }
        }
    }

    /** Bus 1 is enumerated on and on, so what the bridge takes for it must wait. */
    private static void bridgeFullTowardsBus1(Due due) {
        CountedBus bus = Benches.ready(1, 5);
        for (int i = 0; i < 8; i++) {
            Benches.ask(bus, 63, i);
        }
        for (int i = 1; i <= 8; i++) {
            bus.enumerate(1);
            bus.tick(1);
            due.is("node(1, 6)", bus.node(1, 6), i);
        }
        Benches.ask(bus, 63, 8);
        Benches.ask(bus, 9, 1);
        bus.enumerate(1);
        bus.tick(1);
        due.is("node(0, 5), the ninth was taken", bus.node(0, 5), 1);
        due.is("node(0, 7), without a try", bus.node(0, 7), 0);
        due.is("node(1, 6), and is lost", bus.node(1, 6), 8);
        bus.enumerate(1);
        bus.tick(4);
        due.is("request(9, 0), the bridge's own are answered", bus.request(9, 0), 2);
        due.is("enumeration(1, 0)", bus.enumeration(1, 0), 2);
        for (int i = 0; i < 8; i++) {
            bus.tick(1);
            Benches.wireIs(due, bus, 1, 47, 63, 8, 200 + i, i);
            bus.tick(2);
        }
    }

    /** Bus 0 is enumerated, so what the bridge takes for it must wait. */
    private static void bridgeFullTowardsBus0(Due due) {
        CountedBus bus = Benches.ready(1, 5);
        Benches.setReceiver(bus, 32, 8);
        bus.enumerate(0);
        for (int i = 1; i <= 9; i++) {
            bus.sensor(2, i % 2 == 1 ? 2000 + i : i);
            bus.noise(0, 0, 1);
            bus.tick(1);
            due.is("node(2, 5), taken", bus.node(2, 5), 0);
            due.is("node(2, 7)", bus.node(2, 7), 0);
            due.is("node(1, 5) after " + i, bus.node(1, 5), Math.min(i, 8));
            if (bus.enumeration(0, 0) != 1) {
                bus.enumerate(0);
            }
        }
        bus.tick(20);
        due.is("event(0, 2), the eighth", bus.event(0, 2), 8);
        due.is("event(7, 2), the first", bus.event(7, 2), 2001);
        due.is("event(8, 2)", bus.event(8, 2), -40000);
    }

    /** Device 2 tells the bridge what it does not know: its 255 finds room as the eighth only. */
    private static void noRoomForTheBridgesOwnAnswer(Due due) {
        for (int waiting = 7; waiting <= 8; waiting++) {
            CountedBus bus = Benches.ready(1, 5);
            Benches.setReceiver(bus, 9, 8);
            Benches.setReceiver(bus, 32, 9);
            bus.enumerate(0);
            for (int i = 1; i <= waiting; i++) {
                bus.sensor(1, i % 2 == 1 ? 2000 : 0);
            }
            due.is("node(1, 5)", bus.node(1, 5), waiting);
            bus.sensor(2, 2000);
            bus.tick(1);
            due.is("node(2, 5), taken", bus.node(2, 5), 0);
            due.is("node(1, 5), with the answer", bus.node(1, 5), 8);
            bus.tick(3 + 8);
            boolean isAnswer = bus.wire(0, 4) == 255;
            due.is("the last packet is the answer", isAnswer ? 1 : 0, waiting == 7 ? 1 : 0);
        }
    }

    private static void thirdTryOfTheManager(Due due) {
        CountedBus bus = Benches.ready(0, 5);
        Benches.ask(bus, 9, 1);
        Benches.ask(bus, 9, 1);
        tries(due, bus, 0, 0, 5, 2);
        due.is("request(0, 0)", bus.request(0, 0), 1);
        bus.tick(2);
        due.is("request(1, 0)", bus.request(1, 0), 2);
    }

    private static void thirdTryOfADevice(Due due) {
        for (int b = 0; b < 2; b++) {
            CountedBus bus = Benches.ready(b, 5);
            Benches.setReceiver(bus, b == 0 ? 9 : 32, 8);
            bus.sensor(2, 2000);
            bus.sensor(2, 7);
            tries(due, bus, b, 2, 5, 2);
            bus.tick(3);
            due.is("event(0, 2), the second", bus.event(0, 2), 7);
            due.is("event(1, 2), the first was dropped", bus.event(1, 2), -40000);
        }
    }

    private static void thirdTryOfTheBridgeOnBus0(Due due) {
        CountedBus bus = Benches.ready(1, 5);
        Benches.setReceiver(bus, 9, 8);
        bus.sensor(1, 2000);
        bus.sensor(1, 7);
        tries(due, bus, 0, 1, 5, 2);
        bus.tick(1);
        due.is("event(0, 2)", bus.event(0, 2), 7);
        due.is("event(1, 2)", bus.event(1, 2), -40000);
    }

    /** Two tries do no harm, the third drops the first packet of these, and tries are 0. */
    private static void tries(Due due, CountedBus bus, int b, int d, int what, int packets) {
        for (int i = 1; i <= 2; i++) {
            Benches.badTick(bus, b);
            due.is("node(" + d + ", 7)", bus.node(d, 7), i);
            due.is("node(" + d + ", " + what + ")", bus.node(d, what), packets);
        }
        Benches.badTick(bus, b);
        due.is("node(" + d + ", 7), dropped", bus.node(d, 7), 0);
        due.is("node(" + d + ", " + what + "), dropped", bus.node(d, what), packets - 1);
    }

    /** The tries of that port are not shown, but what becomes of its packets is. */
    private static void thirdTryOfTheBridgeOnBus1(Due due) {
        CountedBus bus = Benches.ready(1, 5);
        Benches.ask(bus, 32, 1);
        bus.noise(1, 0, 1);
        bus.tick(1);
        due.is("node(1, 6), one try", bus.node(1, 6), 1);
        Benches.badTick(bus, 1);
        due.is("node(1, 6), two tries", bus.node(1, 6), 1);
        due.is("node(1, 7), of the other port", bus.node(1, 7), 0);
        Benches.badTick(bus, 1);
        due.is("node(1, 6), dropped", bus.node(1, 6), 0);
        Benches.ask(bus, 32, 1);
        bus.noise(1, 0, 1);
        bus.tick(1);
        Benches.badTick(bus, 1);
        due.is("node(1, 6), from 0 again", bus.node(1, 6), 1);
        bus.tick(4);
        due.is("request(0, 0)", bus.request(0, 0), 1);
        due.is("request(1, 0)", bus.request(1, 0), 2);
    }

    private static void badAndNobodyCountAlike(Due due) {
        CountedBus bus = Benches.ready(0, 5);
        Benches.ask(bus, 9, 1);
        bus.unplug(2);
        bus.tick(1);
        due.is("node(0, 7), nobody has the address", bus.node(0, 7), 1);
        Benches.badTick(bus, 0);
        due.is("node(0, 7), not good", bus.node(0, 7), 2);
        bus.tick(1);
        due.is("node(0, 7), nobody again", bus.node(0, 7), 0);
        due.is("node(0, 5), dropped", bus.node(0, 5), 0);
        Benches.ask(bus, 9, 1);
        bus.tick(2);
        due.is("node(0, 7)", bus.node(0, 7), 2);
        bus.plug(3, 0, 5);
        bus.enumerate(0);
        bus.tick(7);
        due.is("node(0, 7), an enumeration leaves tries", bus.node(0, 7), 2);
        bus.tick(2);
        due.is("node(0, 7)", bus.node(0, 7), 0);
        due.is("request(1, 0), the third one was taken", bus.request(1, 0), 2);
    }

    /** Whichever was plugged first: of five same rows the one of the least node goes first. */
    private static void sameRowsLeastNode(Due due) {
        for (int b = 0; b < 2; b++) {
            CountedBus bus = new CountedBus();
            for (int d = 6; d >= 2; d--) {
                bus.plug(d, b, 5);
            }
            bus.enumerate(0);
            bus.enumerate(1);
            bus.tick(10);
            int r = Benches.ask(bus, b == 0 ? 9 : 32, 1);
            bus.tick(1);
            for (int sent = 2; sent <= 6; sent++) {
                for (int d = 2; d <= 6; d++) {
                    due.is("node(" + d + ", 5)", bus.node(d, 5), d >= sent ? 1 : 0);
                    due.is("node(" + d + ", 7)", bus.node(d, 7), 0);
                }
                bus.tick(1);
            }
            due.is("node(6, 5)", bus.node(6, 5), 0);
            bus.tick(1);
            due.is("request(r, 0)", bus.request(r, 0), 2);
        }
        sameRowsAndTries(due);
    }

    private static void sameRowsAndTries(Due due) {
        CountedBus bus = Benches.ready(0, 5, 5);
        Benches.ask(bus, 9, 1);
        bus.tick(1);
        for (int d = 2; d <= 3; d++) {
            tries(due, bus, 0, d, 5, 1);
        }
        due.is("request(0, 0), both were dropped", bus.request(0, 0), 1);
    }

    /** Two devices with one endpoint, each with a receiver, before any event. */
    private static CountedBus twins() {
        CountedBus bus = Benches.ready(0, 5, 5);
        Benches.setReceiver(bus, 9, 8);
        return bus;
    }

    private static void lessByTarget(Due due) {
        int[][] receivers = {{8, 7}, {128, 127}, {255, 254}, {255, 1}, {9, 8}};
        for (int[] pair : receivers) {
            CountedBus bus = Benches.ready(0, 5, 6);
            Benches.setReceiver(bus, 9, pair[0]);
            Benches.setReceiver(bus, 10, pair[1]);
            bus.sensor(2, 2000);
            bus.sensor(3, 2000);
            bus.tick(1);
            due.is("wire(0, 1)", bus.wire(0, 1), pair[1]);
            due.is("wire(0, 2), though its source is greater", bus.wire(0, 2), 10);
            bus.tick(1);
            due.is("wire(0, 1)", bus.wire(0, 1), pair[0]);
        }
    }

    private static void lessBySource(Due due) {
        CountedBus bus = Benches.ready(0, 6, 5);
        Benches.setReceiver(bus, 9, 8);
        Benches.setReceiver(bus, 10, 8);
        bus.sensor(3, 2000);
        bus.tick(1);
        bus.sensor(2, -2000);
        bus.sensor(3, 0);
        bus.tick(1);
        due.is("wire(0, 2), though its flags are greater", bus.wire(0, 2), 9);
        due.is("wire(0, 3)", bus.wire(0, 3), 201);
        bus.tick(1);
        due.is("wire(0, 2)", bus.wire(0, 2), 10);
        due.is("wire(0, 3)", bus.wire(0, 3), 200);
    }

    private static void lessByFlags(Due due) {
        CountedBus bus = twins();
        bus.sensor(2, 2000);
        bus.tick(1);
        bus.sensor(2, 0);
        bus.sensor(3, 2000);
        bus.tick(1);
        due.is("wire(0, 3), tag 0 of device 3", bus.wire(0, 3), 200);
        due.is("node(3, 5)", bus.node(3, 5), 0);
        due.is("node(2, 5), tag 1, though its bytes are less", bus.node(2, 5), 1);
    }

    /** State, value high and value low: bytes have no sign, and the first that differs counts. */
    private static void lessByBytes(Due due) {
        int[][] values = {{2000, -2000}, {2001, 2000}, {2304, 2303}, {32767, 32766}, {0x7f01, 0x7e02}};
        for (int[] pair : values) {
            CountedBus bus = twins();
            bus.sensor(2, pair[0]);
            bus.sensor(3, pair[1]);
            bus.tick(1);
            due.is("event(0, 2), of device 3", bus.event(0, 2), pair[1]);
            due.is("node(3, 5)", bus.node(3, 5), 0);
            bus.tick(1);
            due.is("event(0, 2), of device 2", bus.event(0, 2), pair[0]);
        }
        noSignInBytes(due);
    }

    /** Everything but -32768 is ABOVE, so the first byte that differs is value high. */
    private static void noSignInBytes(Due due) {
        CountedBus bus = twins();
        Benches.setBounds(bus, 9, -32768, -32767, 0);
        bus.sensor(2, -32768);
        bus.sensor(3, -32768);
        bus.tick(4);
        due.is("event(0, 1)", bus.event(0, 1), 0);
        bus.sensor(2, -1);
        bus.sensor(3, 32767);
        bus.tick(1);
        due.is("event(0, 1)", bus.event(0, 1), 2);
        due.is("event(0, 2), 127 is less than 255", bus.event(0, 2), 32767);
        bus.tick(1);
        due.is("event(0, 2)", bus.event(0, 2), -1);
    }

    /** Endpoints 9 and 31 are the least and the greatest of bus 0. */
    private static void whereNearPacketsGo(Due due) {
        int[][] targetsAndAddresses = {{9, 16}, {10, 17}, {24, 31}, {31, 38}};
        for (int[] pair : targetsAndAddresses) {
            CountedBus bus = Benches.ready(0, 5);
            Benches.ask(bus, pair[0], 1);
            bus.tick(1);
            Benches.wireIs(due, bus, 0, pair[1], pair[0], 8, 200, 1);
            due.is("node(1, 6), not for bus 1", bus.node(1, 6), 0);
        }
    }

    /** Endpoints 32 and 63 are the least and the greatest of bus 1. */
    private static void whereFarPacketsGo(Due due) {
        int[][] targetsAndAddresses = {{32, 16}, {33, 17}, {47, 31}, {63, 47}};
        for (int[] pair : targetsAndAddresses) {
            CountedBus bus = Benches.ready(0, 5);
            Benches.ask(bus, pair[0], 1);
            bus.tick(1);
            Benches.wireIs(due, bus, 0, 17, pair[0], 8, 200, 1);
            Benches.wireIs(due, bus, 1, pair[1], pair[0], 8, 200, 1);
        }
    }

    /** From bus 1 targets below 32 are handed on, 31 the last; the bridge's own is not. */
    private static void handedOnOrNot(Due due) {
        int[][] receiversAndWaiting = {{1, 1}, {8, 1}, {10, 1}, {31, 1}, {32, 0}, {33, 0}, {255, 0}};
        for (int[] pair : receiversAndWaiting) {
            CountedBus bus = Benches.ready(1, 5);
            Benches.setReceiver(bus, 32, pair[0]);
            bus.sensor(2, 2000);
            bus.tick(1);
            due.is("node(1, 5) for " + pair[0], bus.node(1, 5), pair[1]);
            due.is("node(2, 5), taken", bus.node(2, 5), 0);
            bus.tick(1);
            if (pair[1] == 1) {
                Benches.wireIs(due, bus, 0, 8, pair[0], 32, 200, 64, 2, 7, 208);
            }
        }
    }
}

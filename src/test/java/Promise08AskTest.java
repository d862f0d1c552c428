/** Promise 8: ask, and how messages are cut and put together. */
public final class Promise08AskTest {
    public static void main(String[] args) {
        Due due = new Due();
        wrongInputsChangeNothing(due);
        fortyAreTheMost(due);
        tagsAndEndpoints(due);
        messagesAreCut(due);
        allPacketsHaveRoomOrNone(due);
        withoutRoomTheTimerSends(due);
        aLostFirstPacket(due);
        aLostMiddlePacket(due);
        anotherTag(due);
        theSameTagIsPutTogether(due);
        aFirstPacketBeginsAnew(due);
        due.end();
    }

    private static void wrongInputsChangeNothing(Due due) {
        CountedBus bus = new CountedBus();
        int[][] wrong = {{9, 0}, {9, 33}, {9, -1}, {8, 1}, {64, 1}, {-1, 1}, {0, 1},
            {Integer.MAX_VALUE, 1}, {9, Integer.MAX_VALUE}, {Integer.MIN_VALUE, Integer.MIN_VALUE}};
        for (int[] w : wrong) {
            due.is("ask(" + w[0] + ", " + w[1] + ")", bus.ask(w[0], w[1]), -1);
        }
        due.is("node(0, 5) after refusals", bus.node(0, 5), 0);
        due.is("request(0, 0) after refusals", bus.request(0, 0), -1);
        due.is("ask(9, 1)", bus.ask(9, 1), 0);
        due.is("ask(63, 32)", bus.ask(63, 32), 1);
        due.is("node(0, 5)", bus.node(0, 5), 5);
    }

    private static void fortyAreTheMost(Due due) {
        CountedBus bus = Benches.ready(0, 5);
        for (int r = 0; r < 40; r++) {
            due.is("ask(9, 1)", Benches.ask(bus, 9, 1), r);
            due.is("request(r, 0)", bus.request(r, 0), 1);
            bus.tick(2);
            due.is("request(r, 0)", bus.request(r, 0), 2);
        }
        due.is("ask(9, 1), there are 40", bus.ask(9, 1), -1);
        due.is("node(0, 5)", bus.node(0, 5), 0);
        due.is("request(40, 0)", bus.request(40, 0), -1);
    }

    private static void tagsAndEndpoints(Due due) {
        for (int first = 12; first <= 22; first += 10) {
            CountedBus bus = Benches.ready(0, 5);
            for (int r = 0; r < 10; r++) {
                Benches.ask(bus, first + r, 77);
                bus.tick(1);
                Benches.wireIs(due, bus, 0, first + r + 7, first + r, 8, 192 + 8 + r % 8, 77);
                bus.tick(2);
            }
        }
    }

    private static void messagesAreCut(Due due) {
        int[][] flags = {{192}, {128, 80}, {128, 16, 96}, {128, 16, 32, 112}};
        for (int n = 1; n <= 32; n++) {
            CountedBus bus = Benches.ready(0, 5);
            int packets = (n + 7) / 8;
            for (int k = 0; k < n; k++) {
                bus.sheet(k, 100 + k);
            }
            bus.ask(9, n);
            due.is("node(0, 5) for " + n + " bytes", bus.node(0, 5), packets);
            for (int i = 0; i < packets; i++) {
                bus.tick(1);
                int count = Math.min(8, n - 8 * i);
                int[] row = new int[4 + count];
                row[0] = 16;
                row[1] = 9;
                row[2] = 8;
                row[3] = flags[packets - 1][i] + 8;
                for (int k = 0; k < count; k++) {
                    row[4 + k] = 100 + 8 * i + k;
                }
                Benches.wireIs(due, bus, 0, row);
            }
            Benches.answered(due, bus, 0, 255);
        }
    }

    private static void allPacketsHaveRoomOrNone(Due due) {
        CountedBus bus = new CountedBus();
        bus.ask(9, 24);
        bus.ask(9, 24);
        due.is("node(0, 5)", bus.node(0, 5), 6);
        due.is("ask(9, 17), no room for three", bus.ask(9, 17), 2);
        due.is("node(0, 5)", bus.node(0, 5), 6);
        due.is("ask(9, 16), room for two", bus.ask(9, 16), 3);
        due.is("node(0, 5)", bus.node(0, 5), 8);
        due.is("ask(9, 1), no room for one", bus.ask(9, 1), 4);
        due.is("node(0, 5)", bus.node(0, 5), 8);
        due.is("request(4, 0)", bus.request(4, 0), 1);
        due.is("request(4, 3)", bus.request(4, 3), 1);
    }

    private static void withoutRoomTheTimerSends(Due due) {
        CountedBus bus = Benches.ready(0, 5);
        bus.ask(20, 32);
        bus.ask(20, 32);
        int r = Benches.ask(bus, 9, 1);
        bus.tick(29);
        due.is("request(r, 2)", bus.request(r, 2), 1);
        due.is("node(0, 5), the others are dropped", bus.node(0, 5), 0);
        bus.tick(1);
        due.is("request(r, 3)", bus.request(r, 3), 2);
        due.is("node(0, 5), the two before it have sent eight", bus.node(0, 5), 8);
        bus.tick(30);
        due.is("request(r, 3), sent without room once more", bus.request(r, 3), 3);
        due.is("request(r, 0)", bus.request(r, 0), 1);
    }

    /** Noise on three transactions drops the packet that is to go next. */
    private static void dropNext(CountedBus bus) {
        for (int i = 0; i < 3; i++) {
            bus.noise(0, 1, 1);
            bus.tick(1);
        }
    }

    private static void aLostFirstPacket(Due due) {
        CountedBus bus = Benches.ready(0, 5);
        int r = Benches.ask(bus, 9, 5, 0, 1, 2, 3, 4, 5, 6, 7);
        dropNext(bus);
        due.is("node(0, 5)", bus.node(0, 5), 1);
        bus.tick(5);
        due.is("request(r, 0), no message came", bus.request(r, 0), 1);
        due.is("block(2, 0)", bus.block(2, 0), 0);
        bus.tick(22);
        due.is("request(r, 3), sent again", bus.request(r, 3), 2);
        Benches.answered(due, bus, r, 133);
        due.is("block(2, 0)", bus.block(2, 0), 1);
        due.is("block(2, 6)", bus.block(2, 6), 7);
    }

    private static void aLostMiddlePacket(Due due) {
        CountedBus bus = Benches.ready(0, 5);
        bus.sheet(0, 5);
        bus.sheet(2, 44);
        int r = bus.ask(9, 26);
        bus.tick(1);
        dropNext(bus);
        bus.tick(10);
        due.is("request(r, 0), a number that was not due", bus.request(r, 0), 1);
        due.is("block(2, 0)", bus.block(2, 0), 0);
    }

    private static void anotherTag(Due due) {
        CountedBus bus = Benches.ready(0, 5);
        Benches.ask(bus, 9, 5, 0, 1, 2, 3, 4, 5, 6, 7);
        Benches.ask(bus, 9, 5, 0, 11, 12, 13, 14, 15, 16, 17);
        bus.tick(1);
        dropNext(bus);
        dropNext(bus);
        due.is("node(0, 5), the second one's last packet", bus.node(0, 5), 1);
        bus.tick(5);
        due.is("request(0, 0)", bus.request(0, 0), 1);
        due.is("request(1, 0)", bus.request(1, 0), 1);
        due.is("block(2, 0)", bus.block(2, 0), 0);
    }

    /** Requests 0 and 8 have one tag: the half of each is a whole message. */
    private static void theSameTagIsPutTogether(Due due) {
        CountedBus bus = Benches.ready(0, 5);
        for (int r = 0; r < 8; r++) {
            Benches.ask(bus, 9, 1);
            bus.tick(2);
        }
        Benches.ask(bus, 9, 5, 0, 1, 2, 3, 4, 5, 6, 7);
        bus.tick(1);
        dropNext(bus);
        for (int r = 9; r < 16; r++) {
            Benches.ask(bus, 10, 1);
            bus.tick(2);
        }
        Benches.ask(bus, 9, 5, 0, 11, 12, 13, 14, 15, 16, 17);
        dropNext(bus);
        bus.tick(1);
        due.is("block(2, 0), of request 8", bus.block(2, 0), 1);
        due.is("block(2, 6), of request 16", bus.block(2, 6), 17);
        bus.tick(1);
        due.is("request(8, 0), the first that waits", bus.request(8, 0), 2);
        due.is("request(16, 0)", bus.request(16, 0), 1);
    }

    private static void aFirstPacketBeginsAnew(Due due) {
        CountedBus bus = Benches.ready(0, 5);
        Benches.ask(bus, 9, 5, 0, 1, 2, 3, 4, 5, 6, 7);
        Benches.ask(bus, 9, 5, 1, 11, 12, 13, 14, 15, 16, 17);
        bus.tick(1);
        dropNext(bus);
        bus.tick(3);
        due.is("request(0, 0)", bus.request(0, 0), 1);
        due.is("request(1, 0)", bus.request(1, 0), 2);
        due.is("block(2, 0)", bus.block(2, 0), 0);
        due.is("block(2, 1)", bus.block(2, 1), 11);
        due.is("block(2, 7)", bus.block(2, 7), 17);
    }
}

/** Under "Terms": timers and sendings of a request, 40 requests, and the log's oldest event. */
public final class TermsManagerTest {
    public static void main(String[] args) {
        Due due = new Due();
        everyTickOfARequest(due);
        answeredInTheLastTick(due);
        answeredOneTickTooLate(due);
        sentAThirdTime(due);
        answerEndsTheSendings(due);
        fortyWaitAtOnce(due);
        fortyOneByOne(due);
        sentAgainInOrder(due);
        theOldestEventGoes(due);
        eventsOfManySources(due);
        answersThatNobodyWaitsFor(due);
        ticksAtTheBounds(due);
        sheetAtTheBounds(due);
        askAtTheBounds(due);
        due.end();
    }

    private static void requestIs(Due due, CountedBus bus, int r, int... want) {
        for (int what = 0; what < want.length; what++) {
            due.is("request(" + r + ", " + what + ")", bus.request(r, what), want[what]);
        }
    }

    /** 30 ticks for each of three sendings, nobody answers; at the 90th it is lost. */
    private static void everyTickOfARequest(Due due) {
        CountedBus bus = Benches.ready(0, 5);
        int r = bus.ask(20, 1);
        requestIs(due, bus, r, 1, 20, 30, 1, 0);
        for (int tick = 1; tick < 90; tick++) {
            bus.tick(1);
            requestIs(due, bus, r, 1, 20, 30 - tick % 30, 1 + tick / 30);
        }
        bus.tick(1);
        requestIs(due, bus, r, 3, 20, 0, 3, 0);
        bus.tick(1);
        requestIs(due, bus, r, 3, 20, 0, 3, 0);
    }

    /** Bus 0 is enumerated without a pause for 84 ticks, and for these more. */
    private static void hinder(CountedBus bus, int more) {
        for (int i = 0; i < 12; i++) {
            bus.enumerate(0);
            bus.tick(1);
            if (i < more) {
                Benches.badTick(bus, 0);
            }
            bus.tick(6);
        }
    }

    /** The 90th tick brings the answer before the request is looked at. */
    private static void answeredInTheLastTick(Due due) {
        CountedBus bus = Benches.ready(0, 5);
        int r = Benches.ask(bus, 9, 1);
        hinder(bus, 4);
        requestIs(due, bus, r, 1, 9, 2, 3, 0);
        due.is("node(0, 5), all three wait", bus.node(0, 5), 3);
        bus.tick(1);
        requestIs(due, bus, r, 1, 9, 1, 3, 0);
        bus.tick(1);
        requestIs(due, bus, r, 2, 9, 1, 3, 4);
        due.is("answer(r, 0)", bus.answer(r, 0), 129);
    }

    private static void answeredOneTickTooLate(Due due) {
        CountedBus bus = Benches.ready(0, 5);
        int r = Benches.ask(bus, 9, 1);
        hinder(bus, 5);
        requestIs(due, bus, r, 1, 9, 1, 3, 0);
        bus.tick(1);
        requestIs(due, bus, r, 3, 9, 0, 3, 0);
        due.is("node(2, 5), its answer", bus.node(2, 5), 1);
        bus.tick(10);
        due.is("node(2, 5)", bus.node(2, 5), 0);
        requestIs(due, bus, r, 3, 9, 0, 3, 0);
        due.is("answer(r, 0)", bus.answer(r, 0), -1);
    }

    /** Two sendings are lost, the third one is answered; a fourth there is not. */
    private static void sentAThirdTime(Due due) {
        CountedBus bus = Benches.ready(0, 5);
        int r = Benches.ask(bus, 9, 1);
        for (int sending = 1; sending <= 2; sending++) {
            due.is("request(r, 3)", bus.request(r, 3), sending);
            Benches.dropNext(bus, 0);
            due.is("node(0, 5)", bus.node(0, 5), 0);
            bus.tick(26);
            due.is("node(0, 5), one tick before", bus.node(0, 5), 0);
            bus.tick(1);
            due.is("node(0, 5), sent again", bus.node(0, 5), 1);
        }
        requestIs(due, bus, r, 1, 9, 30, 3, 0);
        Benches.answered(due, bus, r, 129, 0, 0, 0);
        requestIs(due, bus, r, 2, 9, 29, 3, 4);
        CountedBus lost = Benches.ready(0, 5);
        Benches.ask(lost, 9, 1);
        for (int sending = 1; sending <= 3; sending++) {
            Benches.dropNext(lost, 0);
            lost.tick(27);
        }
        requestIs(due, lost, 0, 3, 9, 0, 3, 0);
        due.is("node(0, 5), not sent a fourth time", lost.node(0, 5), 0);
    }

    private static void answerEndsTheSendings(Due due) {
        CountedBus bus = Benches.ready(0, 5);
        int r = Benches.ask(bus, 9, 1);
        bus.tick(2);
        bus.tick(28);
        requestIs(due, bus, r, 2, 9, 29, 1, 4);
        due.is("node(0, 5), not sent again", bus.node(0, 5), 0);
        bus.tick(100);
        requestIs(due, bus, r, 2, 9, 29, 1, 4);
    }

    /** All are counted, although only eight find room each time. */
    private static void fortyWaitAtOnce(Due due) {
        CountedBus bus = new CountedBus();
        for (int r = 0; r < 40; r++) {
            due.is("ask(32, 1)", bus.ask(32, 1), r);
        }
        due.is("ask(32, 1), there are 40", bus.ask(32, 1), -1);
        due.is("node(0, 5)", bus.node(0, 5), 8);
        int[] looked = {0, 7, 8, 38, 39};
        for (int sending = 1; sending <= 3; sending++) {
            for (int r : looked) {
                requestIs(due, bus, r, 1, 32, 30, sending, 0);
            }
            bus.tick(29);
            for (int r : looked) {
                requestIs(due, bus, r, 1, 32, 1, sending, 0);
            }
            bus.tick(1);
            due.is("node(0, 5)", bus.node(0, 5), 8);
        }
        for (int r : looked) {
            requestIs(due, bus, r, 3, 32, 0, 3, 0);
        }
        due.is("request(40, 0)", bus.request(40, 0), -1);
        due.is("ask(32, 1), there are 40 for ever", bus.ask(32, 1), -1);
    }

    private static void fortyOneByOne(Due due) {
        CountedBus bus = Benches.ready(0, 5);
        bus.sheet(0, 1);
        for (int r = 0; r < 39; r++) {
            bus.ask(9, 1);
            bus.tick(2);
        }
        due.is("request(38, 0)", bus.request(38, 0), 2);
        due.is("request(39, 0), not yet", bus.request(39, 0), -1);
        due.is("answer(39, 0), not yet", bus.answer(39, 0), -1);
        due.is("ask(9, 1), the fortieth", bus.ask(9, 1), 39);
        requestIs(due, bus, 39, 1, 9, 30, 1, 0);
        due.is("ask(9, 1), there are 40", bus.ask(9, 1), -1);
        due.is("node(0, 5), one packet", bus.node(0, 5), 1);
        bus.tick(2);
        requestIs(due, bus, 39, 2, 9, 29, 1, 4);
        due.is("answer(39, 0)", bus.answer(39, 0), 129);
        due.is("answer(40, 0)", bus.answer(40, 0), -1);
        due.is("request(0, 0)", bus.request(0, 0), 2);
        due.is("ask(9, 1), though all are answered", bus.ask(9, 1), -1);
    }

    /** When several are due at once, the least number is sent first, as long as there is room. */
    private static void sentAgainInOrder(Due due) {
        CountedBus bus = Benches.ready(0, 5);
        int[] lengths = {24, 24, 24, 16, 8};
        for (int n : lengths) {
            bus.ask(20, n);
        }
        bus.tick(29);
        due.is("node(0, 5), all were dropped", bus.node(0, 5), 0);
        bus.tick(1);
        due.is("node(0, 5), 3 and 3, not 3, and 2, not 1", bus.node(0, 5), 8);
        int[] flags = {136, 24, 104, 137, 25, 105, 139, 91};
        for (int flag : flags) {
            bus.tick(1);
            due.is("wire(0, 3)", bus.wire(0, 3), flag);
            bus.tick(2);
        }
    }

    /** So many came: sixteen are kept, the seventeenth from the end is the first that is not. */
    private static void theOldestEventGoes(Due due) {
        for (int count = 15; count <= 18; count++) {
            CountedBus bus = Benches.ready(0, 5);
            Benches.setReceiver(bus, 9, 8);
            for (int i = 1; i <= count; i++) {
                bus.sensor(2, i % 2 == 1 ? 2000 + i : -i);
                bus.tick(1);
            }
            int oldest = Math.max(1, count - 15);
            due.is("event(0, 2)", bus.event(0, 2), count % 2 == 1 ? 2000 + count : -count);
            int k = count - oldest;
            due.is("event(" + k + ", 2)", bus.event(k, 2), oldest % 2 == 1 ? 2000 + oldest : -oldest);
            for (int what = 0; what < 3; what++) {
                due.is("event(" + (k + 1) + ", " + what + ")", bus.event(k + 1, what), -40000);
                due.is("event(16, " + what + ")", bus.event(16, what), -40000);
            }
        }
    }

    private static void eventsOfManySources(Due due) {
        CountedBus bus = Benches.plugged(0, 5, 6);
        bus.plug(6, 1, 9);
        bus.enumerate(0);
        bus.enumerate(1);
        bus.tick(10);
        int[] endpoints = {9, 10, 11, 32};
        int[] nodes = {2, 3, 1, 6};
        for (int endpoint : endpoints) {
            Benches.setReceiver(bus, endpoint, 8);
        }
        for (int i = 0; i < 20; i++) {
            bus.sensor(nodes[i % 4], i / 4 % 2 == 0 ? 1001 + i : i);
            bus.tick(3);
        }
        for (int k = 0; k < 16; k++) {
            int i = 19 - k;
            due.is("event(" + k + ", 0)", bus.event(k, 0), endpoints[i % 4]);
            due.is("event(" + k + ", 1)", bus.event(k, 1), i / 4 % 2 == 0 ? 2 : 0);
            due.is("event(" + k + ", 2)", bus.event(k, 2), i / 4 % 2 == 0 ? 1001 + i : i);
        }
        due.is("event(16, 0)", bus.event(16, 0), -40000);
    }

    /** A second answer to one request, from a second device with that endpoint. */
    private static void answersThatNobodyWaitsFor(Due due) {
        CountedBus bus = Benches.ready(0, 5, 5);
        bus.sensor(3, 7);
        int r = Benches.ask(bus, 9, 1);
        bus.tick(2);
        requestIs(due, bus, r, 2, 9, 29, 1, 4);
        due.is("answer(r, 3), the lesser row came first", bus.answer(r, 3), 0);
        bus.tick(1);
        due.is("node(3, 5), taken", bus.node(3, 5), 0);
        due.is("answer(r, 3), as it was", bus.answer(r, 3), 0);
        due.is("event(0, 0), an answer is no event", bus.event(0, 0), -40000);
    }

    private static void ticksAtTheBounds(Due due) {
        CountedBus bus = new CountedBus();
        due.is("tick(0)", bus.tick(0), -1);
        due.is("tick(1)", bus.tick(1), 1);
        due.is("tick(99)", bus.tick(99), 100);
        due.is("tick(100)", bus.tick(100), 200);
        due.is("tick(101)", bus.tick(101), -1);
        due.is("tick(1)", bus.tick(1), 201);
        for (int i = 1; i <= 300; i++) {
            due.is("tick(100)", bus.tick(100), 201 + 100 * i);
        }
    }

    /** The first and the last byte of the sheet with the least and the greatest value. */
    private static void sheetAtTheBounds(Due due) {
        int[] values = {255, 0, 1, 254, 128};
        CountedBus bus = Benches.ready(0, 5);
        for (int v : values) {
            due.yes("sheet(0, " + v + ")", bus.sheet(0, v));
            due.yes("sheet(31, " + v + ")", bus.sheet(31, v));
            due.no("sheet(-1, 7)", bus.sheet(-1, 7));
            due.no("sheet(32, 7)", bus.sheet(32, 7));
            due.no("sheet(0, -1)", bus.sheet(0, -1));
            due.no("sheet(31, 256)", bus.sheet(31, 256));
            bus.ask(9, 32);
            bus.tick(1);
            due.is("wire(0, 4)", bus.wire(0, 4), v);
            due.is("wire(0, 11)", bus.wire(0, 11), 0);
            bus.tick(3);
            due.is("wire(0, 4)", bus.wire(0, 4), 0);
            due.is("wire(0, 11)", bus.wire(0, 11), v);
            bus.tick(1);
        }
    }

    private static void askAtTheBounds(Due due) {
        int[][] allowed = {{9, 1}, {9, 32}, {63, 1}, {63, 32}, {31, 8}, {32, 9}};
        int[][] refused = {{8, 1}, {64, 1}, {9, 0}, {9, 33}, {63, 0}, {63, 33}, {8, 0}, {64, 33}};
        CountedBus bus = new CountedBus();
        for (int r = 0; r < allowed.length; r++) {
            for (int[] w : refused) {
                due.is("ask(" + w[0] + ", " + w[1] + ")", bus.ask(w[0], w[1]), -1);
            }
            due.is("request(r, 0), none yet", bus.request(r, 0), -1);
            due.is("ask", bus.ask(allowed[r][0], allowed[r][1]), r);
            requestIs(due, bus, r, 1, allowed[r][0], 30, 1, 0);
        }
    }
}

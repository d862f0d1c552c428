/** Under "Terms": numbers, tags, and parts that become messages or not. */
public final class TermsPartsTest {
    /** Bytes of a message that writes to the block, cut into 2, 3 and 4 packets. */
    private static final int[] LENGTHS = {9, 16, 17, 24, 25, 26};

    public static void main(String[] args) {
        Due due = new Due();
        for (int length : LENGTHS) {
            for (int lost = 0; lost < (length + 7) / 8; lost++) {
                lostPacketOfARequest(due, length, lost);
                lostPacketOfAnAnswer(due, length, lost);
            }
        }
        longestMessages(due);
        flagsOfAnAnswer(due);
        tagsOfRequests(due);
        noPartAfterTheLastPacket(due);
        noPartAfterANumberNotDue(due);
        noPartAfterAnotherTag(due);
        aPartForEachSource(due);
        twoPartsAtOnce(due);
        twoSendersOfOneEndpoint(due);
        due.end();
    }

    private static int packets(int length) {
        return (length + 7) / 8;
    }

    private static void writeToSheet(CountedBus bus, int length) {
        bus.sheet(0, 5);
        bus.sheet(1, 0);
        for (int k = 2; k < length; k++) {
            bus.sheet(k, 100 + k);
        }
    }

    private static void blockIs(Due due, CountedBus bus, int written) {
        for (int k = 0; k < 24; k++) {
            due.is("block(2, " + k + ")", bus.block(2, k), k < written ? 102 + k : 0);
        }
    }

    /** Whichever packet is lost, no message comes; sent again as a whole, it does. */
    private static void lostPacketOfARequest(Due due, int length, int lost) {
        CountedBus bus = Benches.ready(0, 5);
        writeToSheet(bus, length);
        int r = bus.ask(9, length);
        if (lost > 0) {
            bus.tick(lost);
        }
        Benches.dropNext(bus, 0);
        bus.tick(packets(length) - lost + 1);
        due.is("request(r, 0), packet " + lost + " of " + length + " bytes lost", bus.request(r, 0), 1);
        due.is("node(0, 5)", bus.node(0, 5), 0);
        due.is("node(2, 5), no answer", bus.node(2, 5), 0);
        blockIs(due, bus, 0);
        bus.tick(30 - packets(length) - 4);
        due.is("request(r, 3), sent again", bus.request(r, 3), 2);
        bus.tick(packets(length));
        blockIs(due, bus, length - 2);
        bus.tick(1);
        due.is("request(r, 0)", bus.request(r, 0), 2);
        due.is("answer(r, 0)", bus.answer(r, 0), 133);
    }

    private static void lostPacketOfAnAnswer(Due due, int length, int lost) {
        if (length > 25) {
            return;
        }
        CountedBus bus = Benches.ready(0, 5);
        writeToSheet(bus, 26);
        bus.ask(9, 26);
        bus.tick(5);
        int r = Benches.ask(bus, 9, 4, 0, length - 1);
        bus.tick(1 + lost);
        Benches.dropNext(bus, 0);
        bus.tick(packets(length) - lost);
        due.is("request(r, 0), packet " + lost + " of " + length + " bytes lost", bus.request(r, 0), 1);
        due.is("request(r, 4)", bus.request(r, 4), 0);
        due.is("answer(r, 0)", bus.answer(r, 0), -1);
        due.is("node(2, 5)", bus.node(2, 5), 0);
        bus.tick(30 - packets(length) - 4);
        due.is("request(r, 3), sent again", bus.request(r, 3), 2);
        bus.tick(packets(length));
        due.is("request(r, 0), all but the last packet", bus.request(r, 0), 1);
        bus.tick(1);
        due.is("request(r, 0)", bus.request(r, 0), 2);
        due.is("request(r, 4)", bus.request(r, 4), length);
        for (int k = 1; k < length; k++) {
            due.is("answer(r, " + k + ")", bus.answer(r, k), 101 + k);
        }
    }

    /** 32 bytes come as one message, near and far; there is none of more. */
    private static void longestMessages(Due due) {
        for (int b = 0; b < 2; b++) {
            for (int n = 31; n <= 32; n++) {
                CountedBus bus = Benches.ready(b, 5);
                int r = bus.ask(b == 0 ? 9 : 32, n);
                bus.tick(3);
                due.is("node(2, 5), three packets of " + n + " bytes", bus.node(2, 5), 0);
                bus.tick(1);
                due.is("node(2, 5), the message has come", bus.node(2, 5), 1);
                Benches.answered(due, bus, r, 255);
                due.is("ask, 33 bytes", bus.ask(9, 33), -1);
            }
        }
    }

    /** An answer of 25 bytes: numbers 0 to 3, FIRST and LAST at the ends, each tag, no 8. */
    private static void flagsOfAnAnswer(Due due) {
        CountedBus bus = Benches.ready(0, 5);
        int[] flags = {128, 16, 32, 64 + 48};
        for (int r = 0; r < 10; r++) {
            Benches.ask(bus, 9, 4, 0, 24);
            bus.tick(1);
            for (int i = 0; i < 4; i++) {
                bus.tick(1);
                due.is("wire(0, 3), packet " + i + " of answer " + r, bus.wire(0, 3), flags[i] + r % 8);
                due.is("wire(0, NONE)", bus.wire(0, -1), i < 3 ? 13 : 6);
            }
            due.is("request(r, 0)", bus.request(r, 0), 2);
        }
    }

    /** The tag is the number mod 8, up to the last request. */
    private static void tagsOfRequests(Due due) {
        CountedBus bus = Benches.ready(0, 5);
        for (int r = 0; r < 40; r++) {
            due.is("ask(9, 1)", bus.ask(9, 1), r);
            bus.tick(1);
            due.is("wire(0, 3), request " + r, bus.wire(0, 3), 200 + r % 8);
            bus.tick(1);
            due.is("wire(0, 3), its answer", bus.wire(0, 3), 192 + r % 8);
            due.is("request(" + r + ", 0)", bus.request(r, 0), 2);
        }
    }

    /** Requests that use a number each and nothing else: the bridge takes them from bus 0. */
    private static void useNumbers(CountedBus bus, int count) {
        for (int i = 0; i < count; i++) {
            bus.ask(63, 1);
        }
        bus.tick(count);
    }

    /** 16 bytes came as a message, so 2 would be due; the 2 of a message with the same tag comes. */
    private static void noPartAfterTheLastPacket(Due due) {
        CountedBus bus = Benches.ready(0, 5);
        writeToSheet(bus, 24);
        bus.ask(9, 16);
        bus.tick(3);
        due.is("request(0, 0)", bus.request(0, 0), 2);
        useNumbers(bus, 7);
        due.is("ask(9, 24), the same tag", bus.ask(9, 24), 8);
        Benches.dropNext(bus, 0);
        Benches.dropNext(bus, 0);
        bus.tick(1);
        due.is("wire(0, 3), number 2", bus.wire(0, 3), 64 + 32 + 8);
        due.is("node(0, 5), it was taken", bus.node(0, 5), 0);
        due.is("node(2, 5), it is no message", bus.node(2, 5), 0);
        blockIs(due, bus, 14);
    }

    /** 1 is due, 2 comes and does nothing but end the part, so the 1 that comes then is nothing. */
    private static void noPartAfterANumberNotDue(Due due) {
        CountedBus bus = Benches.ready(0, 5);
        writeToSheet(bus, 24);
        bus.ask(9, 16);
        bus.tick(1);
        Benches.dropNext(bus, 0);
        useNumbers(bus, 7);
        due.is("ask(9, 24), the same tag", bus.ask(9, 24), 8);
        Benches.dropNext(bus, 0);
        Benches.dropNext(bus, 0);
        bus.tick(1);
        due.is("wire(0, 3), number 2", bus.wire(0, 3), 64 + 32 + 8);
        due.is("node(2, 5)", bus.node(2, 5), 0);
        useNumbers(bus, 7);
        due.is("ask(9, 16), the same tag", bus.ask(9, 16), 16);
        Benches.dropNext(bus, 0);
        bus.tick(1);
        due.is("wire(0, 3), number 1", bus.wire(0, 3), 64 + 16 + 8);
        due.is("node(2, 5), there is no part any more", bus.node(2, 5), 0);
        blockIs(due, bus, 0);
    }

    private static void noPartAfterAnotherTag(Due due) {
        CountedBus bus = Benches.ready(0, 5);
        writeToSheet(bus, 16);
        bus.ask(9, 16);
        bus.tick(1);
        Benches.dropNext(bus, 0);
        due.is("ask(9, 16), another tag", bus.ask(9, 16), 1);
        Benches.dropNext(bus, 0);
        bus.tick(1);
        due.is("wire(0, 3), number 1", bus.wire(0, 3), 64 + 16 + 8 + 1);
        due.is("node(2, 5)", bus.node(2, 5), 0);
        useNumbers(bus, 6);
        due.is("ask(9, 16), the first one's tag", bus.ask(9, 16), 8);
        Benches.dropNext(bus, 0);
        bus.tick(1);
        due.is("wire(0, 3), number 1", bus.wire(0, 3), 64 + 16 + 8);
        due.is("node(2, 5), there is no part any more", bus.node(2, 5), 0);
        blockIs(due, bus, 0);
    }

    /** In the midst of an answer from 10 an event from 9 comes: both come as a whole. */
    private static void aPartForEachSource(Due due) {
        for (int before = 1; before <= 3; before++) {
            CountedBus bus = Benches.ready(0, 5, 6);
            Benches.setReceiver(bus, 9, 8);
            int r = Benches.ask(bus, 10, 4, 0, 24);
            bus.tick(1 + before);
            bus.sensor(2, 2000);
            bus.tick(1);
            due.is("wire(0, 2), source 9", bus.wire(0, 2), 9);
            due.is("event(0, 2)", bus.event(0, 2), 2000);
            bus.tick(3 - before);
            due.is("request(r, 0)", bus.request(r, 0), 1);
            bus.tick(1);
            due.is("request(r, 0)", bus.request(r, 0), 2);
            due.is("request(r, 4)", bus.request(r, 4), 25);
        }
    }

    /** The far answer has begun when the near one comes, and goes on behind it. */
    private static void twoPartsAtOnce(Due due) {
        CountedBus bus = Benches.plugged(0, 5);
        bus.plug(3, 1, 6);
        bus.enumerate(0);
        bus.enumerate(1);
        bus.tick(10);
        int far = Benches.ask(bus, 32, 4, 0, 24);
        bus.tick(2);
        Benches.badTick(bus, 1);
        due.is("wire(0, 2), the far answer begins", bus.wire(0, 2), 32);
        int near = Benches.ask(bus, 9, 4, 0, 20);
        Benches.badTick(bus, 1);
        due.is("wire(0, 1), the near one is asked", bus.wire(0, 1), 9);
        bus.tick(3);
        due.is("request(near, 0)", bus.request(near, 0), 2);
        due.is("request(near, 4)", bus.request(near, 4), 21);
        due.is("request(far, 0)", bus.request(far, 0), 1);
        bus.tick(3);
        due.is("request(far, 0)", bus.request(far, 0), 2);
        due.is("request(far, 4)", bus.request(far, 4), 25);
    }

    /** The first one's answer lost a packet; the second one's begins a new part and is whole. */
    private static void twoSendersOfOneEndpoint(Due due) {
        CountedBus bus = Benches.ready(0, 5, 5);
        int r = Benches.ask(bus, 9, 4, 0, 24);
        bus.tick(2);
        Benches.dropNext(bus, 0);
        bus.tick(2);
        due.is("node(2, 5)", bus.node(2, 5), 0);
        due.is("node(3, 5)", bus.node(3, 5), 4);
        due.is("request(r, 0)", bus.request(r, 0), 1);
        bus.tick(3);
        due.is("request(r, 0)", bus.request(r, 0), 1);
        bus.tick(1);
        due.is("request(r, 0)", bus.request(r, 0), 2);
        due.is("request(r, 4)", bus.request(r, 4), 25);
    }
}

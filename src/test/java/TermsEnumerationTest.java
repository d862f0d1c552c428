/** Under "Terms": where an enumeration ends, and the bounds of what it gives. */
public final class TermsEnumerationTest {
    public static void main(String[] args) {
        Due due = new Due();
        for (int b = 0; b < 2; b++) {
            noThirdTry(due, b);
            thirdTry(due, b);
        }
        prepareIsForAll(due);
        nothingToAsk(due);
        nothingToAskAnyMore(due);
        nothingLeftToAsk(due);
        fifteenAssigned(due);
        sixteenOnBus0(due);
        sixteenOnBus1(due);
        seventeenOnBus0(due);
        seventeenLeavesTheNoise(due);
        sixteenAndNothingLeft(due);
        leastIdentityIsFirst(due);
        identityOfTheBridge(due);
        askHearsWhoIsThere(due);
        giveKeepsWhatWasHeard(due);
        failedInSetKeepsWhatWasSet(due);
        ownersAreNotFound(due);
        farAddressBeforeAndAfter(due);
        due.end();
    }

    private static int firstEndpoint(int b) {
        return b == 0 ? 9 : 32;
    }

    /** On bus 0 the bridge is found, too, after device 2. */
    private static int found(int b) {
        return b == 0 ? 2 : 1;
    }

    private static int transactions(int b) {
        return 3 * found(b);
    }

    /** Two tries that were not good in each stage, and the third one is: it goes on. */
    private static void noThirdTry(Due due, int b) {
        CountedBus bus = Benches.plugged(b, 7);
        bus.enumerate(b);
        bus.tick(1);
        for (int i = 0; i < transactions(b); i++) {
            for (int tries = 1; tries <= 2; tries++) {
                Benches.badTick(bus, b);
                due.is("enumeration(" + b + ", 0)", bus.enumeration(b, 0), 1);
                due.is("enumeration(" + b + ", 2)", bus.enumeration(b, 2), tries);
            }
            bus.tick(1);
            due.is("enumeration(" + b + ", 2), the next stage", bus.enumeration(b, 2), 0);
        }
        Benches.enumerationIs(due, bus, b, 2, found(b), 0);
        due.is("node(2, 4)", bus.node(2, 4), firstEndpoint(b));
    }

    /** The third one is not good in one stage, whichever it is: FAILED at once. */
    private static void thirdTry(Due due, int b) {
        for (int good = 0; good < transactions(b); good++) {
            CountedBus bus = Benches.plugged(b, 7);
            bus.enumerate(b);
            bus.tick(1 + good);
            int assigned = bus.enumeration(b, 1);
            int address = bus.node(2, 2);
            int endpoint = bus.node(2, 4);
            Benches.badTick(bus, b);
            Benches.badTick(bus, b);
            Benches.enumerationIs(due, bus, b, 1, assigned, 2);
            Benches.badTick(bus, b);
            Benches.enumerationIs(due, bus, b, 3, assigned, 0);
            due.is("assigned after " + good, assigned, Math.min(good / 2, found(b)));
            due.is("node(2, 2), as it was", bus.node(2, 2), address);
            due.is("node(2, 4), as it was", bus.node(2, 4), endpoint);
            int length = bus.wire(b, -1);
            bus.tick(3);
            Benches.enumerationIs(due, bus, b, 3, assigned, 0);
            due.is("wire(" + b + ", NONE), it is over", bus.wire(b, -1), length);
            due.yes("enumerate(" + b + ")", bus.enumerate(b));
            Benches.enumerationIs(due, bus, b, 1, assigned, 0);
            bus.tick(1 + transactions(b));
            Benches.enumerationIs(due, bus, b, 2, found(b), 0);
        }
    }

    /** No port of that bus but the owner's is resolved, and no port of the other bus is touched. */
    private static void prepareIsForAll(Due due) {
        for (int b = 0; b < 2; b++) {
            for (int other = 2; other <= 6; other++) {
                CountedBus bus = new CountedBus();
                for (int d = 2; d <= 6; d++) {
                    bus.plug(d, d == other ? 1 - b : b, 100 * d);
                }
                bus.enumerate(0);
                bus.enumerate(1);
                bus.tick(20);
                bus.enumerate(b);
                bus.tick(1);
                for (int d = 2; d <= 6; d++) {
                    due.is("node(" + d + ", 3)", bus.node(d, 3), d == other ? 1 : 0);
                }
                due.is("node(0, 3)", bus.node(0, 3), 1);
                due.is("node(1, 3)", bus.node(1, 3), b);
                bus.tick(20);
                Benches.enumerationIs(due, bus, b, 2, b == 0 ? 5 : 4, 0);
                for (int d = 1; d <= 6; d++) {
                    due.is("node(" + d + ", 3), found again", bus.node(d, 3), 1);
                }
            }
        }
    }

    private static void nothingToAsk(Due due) {
        CountedBus bus = new CountedBus();
        bus.enumerate(1);
        bus.noise(1, 0, 255);
        bus.tick(1);
        Benches.enumerationIs(due, bus, 1, 1, 0, 0);
        due.no("enumerate(1), it goes on", bus.enumerate(1));
        bus.tick(1);
        Benches.enumerationIs(due, bus, 1, 2, 0, 0);
        due.is("wire(1, NONE), no transaction", bus.wire(1, -1), 0);
        due.yes("enumerate(1)", bus.enumerate(1));
        bus.plug(2, 1, 7);
        bus.tick(2);
        due.is("wire(1, 0), the noise is still there", bus.wire(1, 0), 255);
        Benches.enumerationIs(due, bus, 1, 1, 0, 1);
    }

    /** Two were assigned; when nobody is there any more, the next one is DONE with none. */
    private static void nothingToAskAnyMore(Due due) {
        CountedBus bus = Benches.ready(1, 7, 8);
        Benches.enumerationIs(due, bus, 1, 2, 2, 0);
        bus.unplug(2);
        bus.unplug(3);
        bus.enumerate(1);
        bus.tick(1);
        Benches.enumerationIs(due, bus, 1, 1, 0, 0);
        bus.tick(1);
        Benches.enumerationIs(due, bus, 1, 2, 0, 0);
        Benches.wireIs(due, bus, 1, 17, 33);
    }

    /** All are gone before the second ASK; what was assigned is SET all the same. */
    private static void nothingLeftToAsk(Due due) {
        CountedBus bus = Benches.plugged(1, 7, 8);
        bus.enumerate(1);
        bus.tick(3);
        bus.unplug(2);
        bus.unplug(3);
        Benches.enumerationIs(due, bus, 1, 1, 1, 0);
        bus.tick(1);
        Benches.wireIs(due, bus, 1, 16, 32);
        Benches.enumerationIs(due, bus, 1, 2, 1, 0);
        goneBeforeTheFirstAsk(due);
    }

    private static void goneBeforeTheFirstAsk(Due due) {
        CountedBus bus = Benches.plugged(1, 7);
        bus.enumerate(1);
        bus.tick(1);
        bus.unplug(2);
        bus.tick(1);
        Benches.enumerationIs(due, bus, 1, 2, 0, 0);
        due.is("wire(1, NONE)", bus.wire(1, -1), 0);
    }

    /** So many were assigned to device 2, which was plugged anew after each GIVE. */
    private static CountedBus assigned(int b, int count) {
        CountedBus bus = Benches.plugged(b, 7);
        bus.enumerate(b);
        bus.tick(1);
        for (int i = 0; i < count; i++) {
            if (i > 0) {
                bus.unplug(2);
                bus.plug(2, b, 7);
            }
            bus.tick(2);
        }
        return bus;
    }

    private static void fifteenAssigned(Due due) {
        CountedBus bus = assigned(1, 15);
        Benches.enumerationIs(due, bus, 1, 1, 15, 0);
        due.is("node(2, 2)", bus.node(2, 2), 30);
        bus.plug(3, 1, 9);
        bus.tick(1);
        Benches.wireIs(due, bus, 1, 0, 9);
        bus.tick(1);
        Benches.wireIs(due, bus, 1, 0, 9, 31);
        Benches.enumerationIs(due, bus, 1, 1, 16, 0);
        due.is("node(3, 2), the greatest address", bus.node(3, 2), 31);
        bus.tick(16);
        Benches.enumerationIs(due, bus, 1, 2, 16, 0);
        due.is("node(2, 4)", bus.node(2, 4), 46);
        due.is("node(3, 4), the greatest endpoint", bus.node(3, 4), 47);
        Benches.answered(due, readyOnBus0(bus), Benches.ask(bus, 47, 1), 129, 0, 0, 0);
    }

    private static CountedBus readyOnBus0(CountedBus bus) {
        bus.enumerate(0);
        bus.tick(4);
        return bus;
    }

    /** The bridge is the sixteenth: address 31 and endpoint 24, near and far packets find it. */
    private static void sixteenOnBus0(Due due) {
        CountedBus bus = assigned(0, 15);
        bus.tick(2);
        Benches.enumerationIs(due, bus, 0, 1, 16, 0);
        due.is("node(1, 2)", bus.node(1, 2), 31);
        bus.tick(15);
        Benches.enumerationIs(due, bus, 0, 1, 16, 0);
        due.is("node(1, 4), before SET 15", bus.node(1, 4), 0);
        bus.tick(1);
        Benches.enumerationIs(due, bus, 0, 2, 16, 0);
        Benches.wireIs(due, bus, 0, 31, 24);
        due.is("node(1, 4)", bus.node(1, 4), 24);
        due.is("node(2, 4)", bus.node(2, 4), 23);
        int near = Benches.ask(bus, 24, 1);
        bus.tick(1);
        Benches.wireIs(due, bus, 0, 31, 24, 8, 200, 1);
        Benches.answered(due, bus, near, 129, 0, 0, 0);
        Benches.ask(bus, 40, 1);
        bus.tick(1);
        Benches.wireIs(due, bus, 0, 31, 40, 8, 201, 1);
    }

    private static void sixteenOnBus1(Due due) {
        CountedBus bus = assigned(1, 16);
        Benches.enumerationIs(due, bus, 1, 1, 16, 0);
        for (int i = 0; i < 16; i++) {
            bus.tick(1);
            Benches.wireIs(due, bus, 1, 16 + i, 32 + i);
        }
        Benches.enumerationIs(due, bus, 1, 2, 16, 0);
    }

    /** With 16 assigned and the bridge not yet found the enumeration of bus 0 is over. */
    private static void seventeenOnBus0(Due due) {
        CountedBus bus = assigned(0, 16);
        Benches.enumerationIs(due, bus, 0, 1, 16, 0);
        due.is("node(1, 3)", bus.node(1, 3), 0);
        bus.tick(1);
        Benches.enumerationIs(due, bus, 0, 3, 16, 0);
        Benches.wireIs(due, bus, 0, 0, 7, 31);
        due.is("node(1, 2)", bus.node(1, 2), 0);
        due.is("node(2, 2), it keeps that", bus.node(2, 2), 31);
        due.is("node(2, 4)", bus.node(2, 4), 0);
        bus.enumerate(0);
        bus.tick(1);
        Benches.enumerationIs(due, bus, 0, 1, 0, 0);
        bus.tick(6);
        Benches.enumerationIs(due, bus, 0, 2, 2, 0);
        due.is("node(2, 2), from 16 again", bus.node(2, 2), 16);
    }

    private static void seventeenLeavesTheNoise(Due due) {
        CountedBus bus = assigned(1, 16);
        bus.plug(3, 1, 9);
        bus.noise(1, 1, 3);
        bus.tick(1);
        Benches.enumerationIs(due, bus, 1, 3, 16, 0);
        Benches.wireIs(due, bus, 1, 0, 7, 31);
        bus.enumerate(1);
        bus.tick(2);
        due.is("wire(1, 1), the noise is still there", bus.wire(1, 1), 7 ^ 3);
        Benches.enumerationIs(due, bus, 1, 1, 0, 1);
    }

    private static void sixteenAndNothingLeft(Due due) {
        CountedBus bus = assigned(1, 16);
        bus.plug(3, 1, 9);
        bus.unplug(3);
        bus.unplug(2);
        bus.tick(1);
        Benches.wireIs(due, bus, 1, 16, 32);
        Benches.enumerationIs(due, bus, 1, 1, 16, 0);
        bus.tick(15);
        Benches.enumerationIs(due, bus, 1, 2, 16, 0);
    }

    /** At each bit where two identities differ, and with the greatest and the least. */
    private static void leastIdentityIsFirst(Due due) {
        CountedBus bus = Benches.plugged(1, 65535, 32768, 32767, 256, 255);
        bus.enumerate(1);
        bus.tick(16);
        Benches.enumerationIs(due, bus, 1, 2, 5, 0);
        for (int d = 2; d <= 6; d++) {
            due.is("node(" + d + ", 2)", bus.node(d, 2), 22 - d);
            due.is("node(" + d + ", 4)", bus.node(d, 4), 38 - d);
        }
        for (int bit = 0; bit < 16; bit++) {
            CountedBus two = Benches.plugged(1, 21845 | 1 << bit, 21845 & ~(1 << bit));
            two.enumerate(1);
            two.tick(7);
            due.is("node(2, 2), the one with bit " + bit, two.node(2, 2), 17);
            due.is("node(3, 2), the one without", two.node(3, 2), 16);
        }
        CountedBus ends = Benches.plugged(0, 65535, 0);
        ends.enumerate(0);
        ends.tick(10);
        due.is("node(3, 2), identity 0", ends.node(3, 2), 16);
        due.is("node(1, 2), identity 1000", ends.node(1, 2), 17);
        due.is("node(2, 2), identity 65535", ends.node(2, 2), 18);
    }

    /** A device with the bridge's identity gets the bridge's address; both take, one hands on. */
    private static void identityOfTheBridge(Due due) {
        CountedBus bus = Benches.plugged(0, 1000, 999, 1001);
        bus.plug(5, 1, 1000);
        bus.enumerate(0);
        bus.enumerate(1);
        bus.tick(10);
        Benches.enumerationIs(due, bus, 0, 2, 3, 0);
        Benches.enumerationIs(due, bus, 1, 2, 1, 0);
        due.is("node(3, 2), 999", bus.node(3, 2), 16);
        due.is("node(1, 2), the bridge", bus.node(1, 2), 17);
        due.is("node(2, 2), 1000", bus.node(2, 2), 17);
        due.is("node(2, 4), 1000", bus.node(2, 4), 10);
        due.is("node(1, 4), the bridge", bus.node(1, 4), 10);
        due.is("node(4, 2), 1001", bus.node(4, 2), 18);
        due.is("node(5, 2), 1000 on bus 1", bus.node(5, 2), 16);
        Benches.answered(due, bus, Benches.ask(bus, 32, 1), 129, 0, 0, 0);
    }

    /** ASK is done once more: a lesser identity that was plugged meanwhile is heard. */
    private static void askHearsWhoIsThere(Due due) {
        CountedBus bus = Benches.plugged(1, 7);
        bus.enumerate(1);
        bus.tick(1);
        Benches.badTick(bus, 1);
        due.is("wire(1, 1)", bus.wire(1, 1), 7);
        bus.plug(3, 1, 6);
        Benches.badTick(bus, 1);
        due.is("wire(1, 1), the lesser one", bus.wire(1, 1), 6);
        Benches.enumerationIs(due, bus, 1, 1, 0, 2);
        bus.unplug(3);
        bus.tick(1);
        Benches.wireIs(due, bus, 1, 0, 7);
        Benches.enumerationIs(due, bus, 1, 1, 0, 0);
    }

    /** GIVE is done once more with what was heard, whoever has come or gone meanwhile. */
    private static void giveKeepsWhatWasHeard(Due due) {
        CountedBus bus = Benches.plugged(1, 7);
        bus.enumerate(1);
        bus.tick(2);
        Benches.badTick(bus, 1);
        bus.unplug(2);
        bus.plug(3, 1, 6);
        Benches.badTick(bus, 1);
        Benches.enumerationIs(due, bus, 1, 1, 0, 2);
        bus.plug(4, 1, 7);
        bus.tick(1);
        Benches.wireIs(due, bus, 1, 0, 7, 16);
        due.is("node(4, 2), it has that identity", bus.node(4, 2), 16);
        due.is("node(3, 2), it has not", bus.node(3, 2), 0);
        bus.tick(2);
        due.is("node(3, 2)", bus.node(3, 2), 17);
    }

    private static void failedInSetKeepsWhatWasSet(Due due) {
        CountedBus bus = Benches.plugged(1, 7, 8);
        bus.enumerate(1);
        bus.tick(6);
        Benches.dropNext(bus, 1);
        Benches.enumerationIs(due, bus, 1, 3, 2, 0);
        due.is("node(2, 4), SET 0 was good", bus.node(2, 4), 32);
        due.is("node(3, 4), SET 1 was not", bus.node(3, 4), 0);
        due.is("node(3, 2)", bus.node(3, 2), 17);
        due.is("node(3, 3)", bus.node(3, 3), 1);
    }

    private static void ownersAreNotFound(Due due) {
        CountedBus bus = Benches.plugged(0, 0);
        bus.plug(3, 1, 0);
        bus.enumerate(0);
        bus.enumerate(1);
        bus.tick(7);
        Benches.enumerationIs(due, bus, 0, 2, 2, 0);
        Benches.enumerationIs(due, bus, 1, 2, 1, 0);
        int[] manager = {0, 0, 8, 1, 8, 0, 0, 0};
        for (int what = 0; what < 8; what++) {
            due.is("node(0, " + what + ")", bus.node(0, what), manager[what]);
        }
        due.is("node(1, 2), found on bus 0 alone", bus.node(1, 2), 17);
        due.is("node(1, 4), found on bus 0 alone", bus.node(1, 4), 10);
    }

    /** 0 before the first one that was DONE, also after one that FAILED having given it. */
    private static void farAddressBeforeAndAfter(Due due) {
        CountedBus bus = new CountedBus();
        Benches.ask(bus, 63, 1);
        bus.tick(2);
        due.is("wire(0, NONE), nowhere to go", bus.wire(0, -1), 0);
        bus.enumerate(0);
        bus.tick(3);
        due.is("node(1, 2), given", bus.node(1, 2), 16);
        Benches.dropNext(bus, 0);
        Benches.enumerationIs(due, bus, 0, 3, 1, 0);
        bus.tick(2);
        due.is("wire(0, NONE), still the SET", bus.wire(0, -1), 3);
        due.is("node(0, 5)", bus.node(0, 5), 1);
        due.is("node(0, 7), no try", bus.node(0, 7), 0);
        bus.enumerate(0);
        bus.tick(4);
        Benches.enumerationIs(due, bus, 0, 2, 1, 0);
        bus.tick(1);
        Benches.wireIs(due, bus, 0, 16, 63, 8, 200, 1);
    }
}

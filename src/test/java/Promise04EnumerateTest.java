/** Promise 4: enumerate, and the stages of an enumeration. */
public final class Promise04EnumerateTest {
    public static void main(String[] args) {
        Due due = new Due();
        refusals(due);
        stagesOnBus0(due);
        stagesOnBus1(due);
        everyByteOfAnIdentity(due);
        sameIdentity(due);
        emptyBus(due);
        prepareKeepsAddresses(due);
        badTransactionsAreRepeated(due);
        threeBadOnesFail(due);
        triesBeginAnewWithEachStage(due);
        sixteenAreTheMost(due);
        sixteenAreEnough(due);
        pluggedWhileItGoesOn(due);
        unpluggedWhileItGoesOn(due);
        packetsWaitOnThatBusAlone(due);
        due.end();
    }

    private static void refusals(Due due) {
        CountedBus bus = new CountedBus();
        due.no("enumerate(-1)", bus.enumerate(-1));
        due.no("enumerate(2)", bus.enumerate(2));
        due.yes("enumerate(0)", bus.enumerate(0));
        due.no("enumerate(0) while it goes on", bus.enumerate(0));
        due.yes("enumerate(1) while bus 0 goes on", bus.enumerate(1));
        bus.tick(3);
        due.no("enumerate(0) after three of its four ticks", bus.enumerate(0));
        bus.tick(1);
        due.is("enumeration(0, 0), a refusal begins nothing", bus.enumeration(0, 0), 2);
        due.yes("enumerate(0) when it is done", bus.enumerate(0));
    }

    private static void stagesOnBus0(Due due) {
        CountedBus bus = Benches.plugged(0, 2000, 500);
        bus.enumerate(0);
        Benches.enumerationIs(due, bus, 0, 1, 0, 0);
        bus.tick(1);
        due.is("wire(0, NONE) after PREPARE", bus.wire(0, -1), 0);
        bus.tick(1);
        Benches.wireIs(due, bus, 0, 1, 244);
        due.is("node(3, 3) after ASK", bus.node(3, 3), 0);
        bus.tick(1);
        Benches.wireIs(due, bus, 0, 1, 244, 16);
        due.is("node(3, 2) after GIVE", bus.node(3, 2), 16);
        due.is("node(3, 3) after GIVE", bus.node(3, 3), 1);
        due.is("node(2, 3) after the first GIVE", bus.node(2, 3), 0);
        bus.tick(1);
        Benches.wireIs(due, bus, 0, 3, 232);
        bus.tick(1);
        Benches.wireIs(due, bus, 0, 3, 232, 17);
        due.is("node(1, 2)", bus.node(1, 2), 17);
        bus.tick(1);
        Benches.wireIs(due, bus, 0, 7, 208);
        bus.tick(1);
        Benches.wireIs(due, bus, 0, 7, 208, 18);
        Benches.enumerationIs(due, bus, 0, 1, 3, 0);
        due.is("node(3, 4) before SET", bus.node(3, 4), 0);
        bus.tick(1);
        Benches.wireIs(due, bus, 0, 16, 9);
        due.is("node(3, 4) after SET 0", bus.node(3, 4), 9);
        due.is("node(1, 4) after SET 0", bus.node(1, 4), 0);
        bus.tick(1);
        Benches.wireIs(due, bus, 0, 17, 10);
        due.is("node(1, 4) after SET 1", bus.node(1, 4), 10);
        Benches.enumerationIs(due, bus, 0, 1, 3, 0);
        bus.tick(1);
        Benches.wireIs(due, bus, 0, 18, 11);
        due.is("node(2, 4) after SET 2", bus.node(2, 4), 11);
        Benches.enumerationIs(due, bus, 0, 2, 3, 0);
        due.is("node(0, 2), the owner's address", bus.node(0, 2), 8);
        due.is("node(0, 4), the owner's endpoint", bus.node(0, 4), 8);
    }

    private static void stagesOnBus1(Due due) {
        CountedBus bus = Benches.plugged(1, 65535, 0);
        bus.enumerate(1);
        bus.tick(2);
        Benches.wireIs(due, bus, 1, 0, 0);
        bus.tick(2);
        Benches.wireIs(due, bus, 1, 255, 255);
        bus.tick(1);
        Benches.wireIs(due, bus, 1, 255, 255, 17);
        bus.tick(1);
        Benches.wireIs(due, bus, 1, 16, 32);
        bus.tick(1);
        Benches.wireIs(due, bus, 1, 17, 33);
        Benches.enumerationIs(due, bus, 1, 2, 2, 0);
        due.is("node(3, 4)", bus.node(3, 4), 32);
        due.is("node(2, 4)", bus.node(2, 4), 33);
        due.is("node(1, 2), not found on bus 1", bus.node(1, 2), 0);
        due.is("node(1, 4), not found on bus 1", bus.node(1, 4), 0);
        due.is("wire(0, NONE)", bus.wire(0, -1), 0);
        Benches.enumerationIs(due, bus, 0, 0, 0, 0);
    }

    private static void everyByteOfAnIdentity(Due due) {
        int[] identities = {0, 1, 255, 256, 512, 32768, 65279, 65535};
        for (int identity : identities) {
            CountedBus bus = Benches.plugged(1, identity);
            bus.enumerate(1);
            bus.tick(2);
            Benches.wireIs(due, bus, 1, identity >> 8, identity & 255);
            bus.tick(1);
            Benches.wireIs(due, bus, 1, identity >> 8, identity & 255, 16);
        }
    }

    private static void sameIdentity(Due due) {
        CountedBus bus = Benches.plugged(1, 7, 7, 9);
        bus.enumerate(1);
        bus.tick(7);
        Benches.enumerationIs(due, bus, 1, 2, 2, 0);
        due.is("node(2, 2)", bus.node(2, 2), 16);
        due.is("node(3, 2)", bus.node(3, 2), 16);
        due.is("node(3, 4)", bus.node(3, 4), 32);
        due.is("node(4, 2)", bus.node(4, 2), 17);
        due.is("node(4, 4)", bus.node(4, 4), 33);
    }

    private static void emptyBus(Due due) {
        CountedBus bus = new CountedBus();
        bus.enumerate(1);
        bus.tick(1);
        Benches.enumerationIs(due, bus, 1, 1, 0, 0);
        bus.noise(1, 0, 1);
        bus.tick(1);
        Benches.enumerationIs(due, bus, 1, 2, 0, 0);
        due.is("wire(1, NONE)", bus.wire(1, -1), 0);
        bus.plug(2, 1, 5);
        bus.enumerate(1);
        bus.tick(2);
        due.is("enumeration(1, 2), the noise was left", bus.enumeration(1, 2), 1);
    }

    private static void prepareKeepsAddresses(Due due) {
        CountedBus bus = Benches.ready(0, 5);
        bus.plug(3, 0, 4);
        bus.enumerate(0);
        Benches.enumerationIs(due, bus, 0, 1, 2, 0);
        due.is("node(2, 3) before PREPARE", bus.node(2, 3), 1);
        bus.tick(1);
        Benches.enumerationIs(due, bus, 0, 1, 0, 0);
        due.is("node(2, 3) after PREPARE", bus.node(2, 3), 0);
        due.is("node(1, 3) after PREPARE", bus.node(1, 3), 0);
        due.is("node(0, 3) after PREPARE", bus.node(0, 3), 1);
        due.is("node(2, 2) after PREPARE", bus.node(2, 2), 16);
        due.is("node(2, 4) after PREPARE", bus.node(2, 4), 9);
        bus.tick(9);
        due.is("node(3, 4)", bus.node(3, 4), 9);
        due.is("node(2, 4)", bus.node(2, 4), 10);
        due.is("node(1, 4)", bus.node(1, 4), 11);
    }

    private static void badTransactionsAreRepeated(Due due) {
        CountedBus bus = Benches.plugged(1, 7);
        bus.enumerate(1);
        bus.noise(1, 2, 255);
        bus.tick(2);
        due.is("wire(1, 2), the check after noise", bus.wire(1, 2), Benches.check(0, 7) ^ 255);
        Benches.enumerationIs(due, bus, 1, 1, 0, 1);
        bus.tick(1);
        Benches.wireIs(due, bus, 1, 0, 7);
        Benches.enumerationIs(due, bus, 1, 1, 0, 0);
        bus.noise(1, 3, 1);
        bus.tick(1);
        Benches.enumerationIs(due, bus, 1, 1, 0, 1);
        due.is("node(2, 2) after a bad GIVE", bus.node(2, 2), 0);
        due.is("node(2, 3) after a bad GIVE", bus.node(2, 3), 0);
        bus.tick(1);
        Benches.wireIs(due, bus, 1, 0, 7, 16);
        Benches.enumerationIs(due, bus, 1, 1, 1, 0);
        bus.noise(1, 0, 128);
        bus.tick(1);
        due.is("wire(1, 0) after noise", bus.wire(1, 0), 16 ^ 128);
        due.is("node(2, 4) after a bad SET", bus.node(2, 4), 0);
        Benches.enumerationIs(due, bus, 1, 1, 1, 1);
        bus.tick(1);
        due.is("node(2, 4)", bus.node(2, 4), 32);
        Benches.enumerationIs(due, bus, 1, 2, 1, 0);
    }

    private static void threeBadOnesFail(Due due) {
        int[] ticksBefore = {1, 2, 3};
        int[] assigned = {0, 0, 1};
        for (int stage = 0; stage < 3; stage++) {
            CountedBus bus = Benches.plugged(1, 7);
            bus.enumerate(1);
            bus.tick(ticksBefore[stage]);
            for (int i = 1; i <= 2; i++) {
                bus.noise(1, 0, 1);
                bus.tick(1);
                Benches.enumerationIs(due, bus, 1, 1, assigned[stage], i);
            }
            bus.noise(1, 0, 1);
            bus.tick(1);
            Benches.enumerationIs(due, bus, 1, 3, assigned[stage], 0);
            bus.tick(5);
            Benches.enumerationIs(due, bus, 1, 3, assigned[stage], 0);
            due.yes("enumerate(1) after FAILED", bus.enumerate(1));
            bus.tick(4);
            Benches.enumerationIs(due, bus, 1, 2, 1, 0);
        }
    }

    private static void triesBeginAnewWithEachStage(Due due) {
        CountedBus bus = Benches.plugged(1, 7, 8);
        bus.enumerate(1);
        bus.tick(1);
        for (int transaction = 0; transaction < 6; transaction++) {
            bus.noise(1, 1, 4);
            bus.tick(1);
            bus.noise(1, 1, 4);
            bus.tick(1);
            due.is("enumeration(1, 2) after two bad ones", bus.enumeration(1, 2), 2);
            bus.tick(1);
            due.is("enumeration(1, 2) after a good one", bus.enumeration(1, 2), 0);
        }
        Benches.enumerationIs(due, bus, 1, 2, 2, 0);
    }

    /** Each time that one was assigned, the device is plugged anew and asks once more. */
    private static CountedBus sixteenAssigned() {
        CountedBus bus = Benches.plugged(1, 7);
        bus.enumerate(1);
        bus.tick(1);
        for (int i = 0; i < 16; i++) {
            bus.unplug(2);
            bus.plug(2, 1, 7);
            bus.tick(2);
        }
        return bus;
    }

    private static void sixteenAreTheMost(Due due) {
        CountedBus bus = sixteenAssigned();
        Benches.enumerationIs(due, bus, 1, 1, 16, 0);
        due.is("node(2, 2)", bus.node(2, 2), 31);
        bus.unplug(2);
        bus.plug(2, 1, 7);
        bus.tick(1);
        Benches.enumerationIs(due, bus, 1, 3, 16, 0);
        Benches.wireIs(due, bus, 1, 0, 7, 31);
        due.is("node(2, 2)", bus.node(2, 2), 0);
    }

    private static void sixteenAreEnough(Due due) {
        CountedBus bus = sixteenAssigned();
        bus.tick(15);
        Benches.enumerationIs(due, bus, 1, 1, 16, 0);
        due.is("node(2, 4) before SET 15", bus.node(2, 4), 0);
        bus.tick(1);
        Benches.enumerationIs(due, bus, 1, 2, 16, 0);
        Benches.wireIs(due, bus, 1, 31, 47);
        due.is("node(2, 4)", bus.node(2, 4), 47);
    }

    private static void pluggedWhileItGoesOn(Due due) {
        CountedBus bus = Benches.plugged(1, 7);
        bus.enumerate(1);
        bus.tick(2);
        bus.plug(3, 1, 7);
        bus.plug(4, 1, 3);
        bus.tick(1);
        due.is("node(3, 2), there when GIVE came", bus.node(3, 2), 16);
        bus.tick(1);
        Benches.wireIs(due, bus, 1, 0, 3);
        bus.tick(2);
        Benches.wireIs(due, bus, 1, 16, 32);
        bus.plug(5, 1, 7);
        bus.tick(1);
        Benches.enumerationIs(due, bus, 1, 2, 2, 0);
        due.is("node(5, 2), too late", bus.node(5, 2), 0);
        due.is("node(5, 4), too late", bus.node(5, 4), 0);
    }

    private static void unpluggedWhileItGoesOn(Due due) {
        CountedBus bus = Benches.plugged(1, 7);
        bus.enumerate(1);
        bus.tick(2);
        bus.unplug(2);
        bus.tick(1);
        Benches.wireIs(due, bus, 1, 0, 7, 16);
        Benches.enumerationIs(due, bus, 1, 1, 1, 0);
        bus.tick(1);
        Benches.wireIs(due, bus, 1, 16, 32);
        Benches.enumerationIs(due, bus, 1, 2, 1, 0);
        asksOnceMoreWithNobodyThere(due);
    }

    private static void asksOnceMoreWithNobodyThere(Due due) {
        CountedBus bus = Benches.plugged(1, 7, 8);
        bus.enumerate(1);
        bus.tick(3);
        bus.noise(1, 0, 1);
        bus.tick(1);
        Benches.enumerationIs(due, bus, 1, 1, 1, 1);
        bus.unplug(3);
        bus.noise(1, 0, 1);
        bus.tick(1);
        Benches.enumerationIs(due, bus, 1, 1, 1, 1);
        due.is("wire(1, NONE), SET in the same tick", bus.wire(1, -1), 3);
        due.is("wire(1, 1)", bus.wire(1, 1), 32);
        bus.tick(1);
        Benches.enumerationIs(due, bus, 1, 2, 1, 0);
    }

    private static void packetsWaitOnThatBusAlone(Due due) {
        CountedBus bus = Benches.ready(0, 5);
        int r = Benches.ask(bus, 9, 1);
        bus.enumerate(1);
        bus.tick(2);
        due.is("request(r, 0), bus 1 is no hindrance", bus.request(r, 0), 2);
        Benches.ask(bus, 9, 1);
        bus.enumerate(0);
        bus.tick(7);
        due.is("node(0, 5) while bus 0 is enumerated", bus.node(0, 5), 1);
        due.is("enumeration(0, 0)", bus.enumeration(0, 0), 2);
        bus.tick(1);
        due.is("node(0, 5) after that", bus.node(0, 5), 0);
        overInATickWithoutATransaction(due);
    }

    /** An enumeration that ends in a tick has had that tick, even without a transaction. */
    private static void overInATickWithoutATransaction(Due due) {
        CountedBus bus = Benches.ready(1, 5);
        Benches.ask(bus, 32, 1);
        bus.unplug(2);
        bus.enumerate(1);
        bus.tick(1);
        due.is("node(1, 6)", bus.node(1, 6), 1);
        due.is("wire(1, NONE), the last SET", bus.wire(1, -1), 3);
        bus.tick(1);
        due.is("enumeration(1, 0)", bus.enumeration(1, 0), 2);
        due.is("wire(1, NONE), still the last SET", bus.wire(1, -1), 3);
        bus.tick(1);
        Benches.wireIs(due, bus, 1, 16, 32, 8, 192 + 8, 1);
    }
}

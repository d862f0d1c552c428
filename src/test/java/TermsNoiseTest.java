/** Under "Terms": checks, and noise at and beyond the last byte of every kind of transaction. */
public final class TermsNoiseTest {
    /** The kinds by their number of bytes: ASK and SET have 3, GIVE has 4, packets 6 to 13. */
    private static final int LONGEST = 13;

    public static void main(String[] args) {
        Due due = new Due();
        for (int b = 0; b < 2; b++) {
            stagesOfAnEnumeration(due, b);
            packetsOfTheOwner(due, b);
        }
        packetsOfADevice(due);
        everyBitIsFound(due);
        lastInPlaceOfTheOneBefore(due);
        allowedBounds(due);
        leftWhileThereIsNoTransaction(due);
        due.end();
    }

    /** Ticks before the first ASK, the first GIVE and SET 0; with their numbers of bytes. */
    private static void stagesOfAnEnumeration(Due due, int b) {
        int firstSet = b == 0 ? 5 : 3;
        int[][] stages = {{1, 3}, {2, 4}, {firstSet, 3}};
        for (int[] stage : stages) {
            for (int k = 0; k < LONGEST; k++) {
                CountedBus plain = before(b, stage[0]);
                plain.tick(1);
                CountedBus bus = before(b, stage[0]);
                due.yes("noise(" + b + ", " + k + ", 170)", bus.noise(b, k, 170));
                bus.tick(1);
                boolean within = k < stage[1];
                due.is("wire(" + b + ", NONE)", bus.wire(b, -1), stage[1]);
                sameButFor(due, bus, plain, b, stage[1], within ? k : -1, 170);
                due.is("enumeration(" + b + ", 2) at " + k, bus.enumeration(b, 2), within ? 1 : 0);
                if (!within) {
                    plain.tick(1);
                }
                bus.tick(1);
                sameButFor(due, bus, plain, b, 3, -1, 0);
                due.is("enumeration(" + b + ", 2), it is over", bus.enumeration(b, 2), 0);
            }
        }
    }

    private static CountedBus before(int b, int ticks) {
        CountedBus bus = Benches.plugged(b, 7);
        bus.enumerate(b);
        bus.tick(ticks);
        return bus;
    }

    private static void sameButFor(Due due, CountedBus bus, CountedBus plain, int b, int length,
            int place, int mask) {
        for (int i = 0; i < length; i++) {
            int want = plain.wire(b, i) ^ (i == place ? mask : 0);
            due.is("wire(" + b + ", " + i + ")", bus.wire(b, i), want);
        }
    }

    /** On bus 0 the manager sends to device 2; on bus 1 the bridge does in the same tick. */
    private static void packetsOfTheOwner(Due due, int b) {
        int endpoint = b == 0 ? 9 : 32;
        int waits = b == 0 ? 5 : 6;
        for (int n = 1; n <= 8; n++) {
            int length = n + 5;
            for (int k = length - 2; k <= Math.min(length + 1, LONGEST - 1); k++) {
                CountedBus bus = Benches.ready(b, 7);
                bus.sheet(0, 99);
                bus.ask(endpoint, n);
                bus.noise(b, k, 1);
                bus.tick(1);
                boolean within = k < length;
                due.is("wire(" + b + ", NONE)", bus.wire(b, -1), length);
                due.is("packets left, " + n + " bytes, noise at " + k, bus.node(b, waits), within ? 1 : 0);
                due.is("node(2, 5), the answer", bus.node(2, 5), within ? 0 : 1);
                bus.tick(1);
                due.is("packets left in the next tick", bus.node(b, waits), 0);
                due.is("node(2, 5), good without noise", bus.node(2, 5), within ? 1 : 0);
            }
        }
    }

    /** An event has 9 bytes on the wire: noise at 8 is its check, at 9 there is none. */
    private static void packetsOfADevice(Due due) {
        for (int b = 0; b < 2; b++) {
            for (int k = 7; k <= 10; k++) {
                CountedBus bus = Benches.ready(b, 7);
                Benches.setReceiver(bus, b == 0 ? 9 : 32, 8);
                bus.sensor(2, 2000);
                bus.noise(b, k, 128);
                bus.tick(1);
                due.is("wire(" + b + ", NONE)", bus.wire(b, -1), 9);
                due.is("node(2, 5), noise at " + k, bus.node(2, 5), k <= 8 ? 1 : 0);
                due.is("node(2, 7), noise at " + k, bus.node(2, 7), k <= 8 ? 1 : 0);
                bus.tick(1);
                due.is("node(2, 5)", bus.node(2, 5), 0);
            }
        }
    }

    private static void everyBitIsFound(Due due) {
        for (int k = 0; k < 6; k++) {
            for (int mask = 1; mask < 256; mask++) {
                CountedBus bus = Benches.ready(0, 7);
                bus.ask(9, 1);
                bus.noise(0, k, mask);
                bus.tick(1);
                due.is("node(0, 7) with noise " + mask + " at " + k, bus.node(0, 7), 1);
            }
        }
    }

    /** The latest noise counts, even if the transaction has no such byte. */
    private static void lastInPlaceOfTheOneBefore(Due due) {
        CountedBus bus = before(1, 1);
        bus.noise(1, 0, 1);
        bus.noise(1, 12, 1);
        bus.tick(1);
        Benches.wireIs(due, bus, 1, 0, 7);
        due.is("enumeration(1, 2)", bus.enumeration(1, 2), 0);
        bus.noise(1, 2, 255);
        bus.noise(1, 2, 1);
        bus.tick(1);
        due.is("wire(1, 2), one mask, not both", bus.wire(1, 2), 16 ^ 1);
        due.is("enumeration(1, 2)", bus.enumeration(1, 2), 1);
    }

    private static void allowedBounds(Due due) {
        int[][] bounds = {{0, 1}, {0, 255}, {12, 1}, {12, 255}};
        for (int b = 0; b < 2; b++) {
            for (int[] bound : bounds) {
                CountedBus bus = Benches.ready(b, 7);
                bus.ask(b == 0 ? 9 : 32, 8);
                due.yes("noise(" + b + ", " + bound[0] + ", " + bound[1] + ")",
                    bus.noise(b, bound[0], bound[1]));
                bus.tick(1);
                int[] row = {16, b == 0 ? 9 : 32, 8, 200, 0, 0, 0, 0, 0, 0, 0, 0};
                int plain = bound[0] == 0 ? row[0] : Benches.check(row);
                due.is("wire(" + b + ", " + bound[0] + ")", bus.wire(b, bound[0]), plain ^ bound[1]);
                due.is("node(2, 5), not taken", bus.node(2, 5), 0);
            }
        }
    }

    /** Ticks without a packet, PREPARE, a packet that has nowhere to go. */
    private static void leftWhileThereIsNoTransaction(Due due) {
        CountedBus bus = new CountedBus();
        bus.noise(0, 0, 4);
        bus.tick(3);
        Benches.ask(bus, 40, 1);
        bus.tick(3);
        due.is("wire(0, NONE)", bus.wire(0, -1), 0);
        bus.enumerate(0);
        bus.tick(1);
        due.is("wire(0, NONE) after PREPARE", bus.wire(0, -1), 0);
        bus.tick(1);
        due.is("wire(0, 0)", bus.wire(0, 0), 3 ^ 4);
        due.is("enumeration(0, 2)", bus.enumeration(0, 2), 1);
        bus.tick(1);
        Benches.wireIs(due, bus, 0, 3, 232);
    }
}

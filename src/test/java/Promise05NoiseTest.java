/** Promise 5: noise. */
public final class Promise05NoiseTest {
    public static void main(String[] args) {
        Due due = new Due();
        wrongInputsChangeNothing(due);
        oneTransactionAlone(due);
        inPlaceOfTheOneBefore(due);
        shorterTransactionsUseItUp(due);
        everyByteAndTheCheck(due);
        ticksWithoutATransactionLeaveIt(due);
        eachBusHasItsOwn(due);
        due.end();
    }

    private static void wrongInputsChangeNothing(Due due) {
        CountedBus bus = Benches.plugged(1, 7);
        due.yes("noise(1, 0, 255)", bus.noise(1, 0, 255));
        int[][] wrong = {{-1, 1, 1}, {2, 1, 1}, {1, -1, 1}, {1, 13, 1}, {1, 1, 0}, {1, 1, 256}, {1, 1, -1}};
        for (int[] w : wrong) {
            due.no("noise(" + w[0] + ", " + w[1] + ", " + w[2] + ")", bus.noise(w[0], w[1], w[2]));
        }
        bus.enumerate(1);
        bus.tick(2);
        due.is("wire(1, 0), the noise before the refusals", bus.wire(1, 0), 255);
        due.is("wire(1, 1)", bus.wire(1, 1), 7);
    }

    private static void oneTransactionAlone(Due due) {
        CountedBus bus = Benches.plugged(1, 7);
        bus.enumerate(1);
        due.yes("noise(1, 1, 1)", bus.noise(1, 1, 1));
        bus.tick(2);
        due.is("wire(1, 1)", bus.wire(1, 1), 6);
        due.is("wire(1, 2), the check of 0 and 7", bus.wire(1, 2), 21);
        bus.tick(1);
        Benches.wireIs(due, bus, 1, 0, 7);
    }

    private static void inPlaceOfTheOneBefore(Due due) {
        CountedBus bus = Benches.plugged(1, 7);
        bus.enumerate(1);
        bus.noise(1, 0, 1);
        bus.noise(1, 1, 16);
        bus.tick(2);
        due.is("wire(1, 0)", bus.wire(1, 0), 0);
        due.is("wire(1, 1)", bus.wire(1, 1), 23);
        bus.tick(1);
        due.is("enumeration(1, 2)", bus.enumeration(1, 2), 0);
    }

    private static void shorterTransactionsUseItUp(Due due) {
        CountedBus bus = Benches.plugged(1, 7);
        bus.enumerate(1);
        due.yes("noise(1, 3, 1)", bus.noise(1, 3, 1));
        bus.tick(2);
        Benches.wireIs(due, bus, 1, 0, 7);
        due.is("enumeration(1, 2), good", bus.enumeration(1, 2), 0);
        bus.tick(1);
        Benches.wireIs(due, bus, 1, 0, 7, 16);
        due.is("enumeration(1, 1), good", bus.enumeration(1, 1), 1);
    }

    private static void everyByteAndTheCheck(Due due) {
        int[] row = {16, 9, 8, 200, 99, 1, 2, 3, 4, 5, 6, 7};
        for (int k = 0; k <= 12; k++) {
            CountedBus bus = Benches.ready(0, 5);
            Benches.ask(bus, 9, 99, 1, 2, 3, 4, 5, 6, 7);
            due.yes("noise(0, " + k + ", 1 + k)", bus.noise(0, k, 1 + k));
            bus.tick(1);
            for (int i = 0; i < 12; i++) {
                due.is("wire(0, " + i + ")", bus.wire(0, i), i == k ? row[i] ^ 1 + k : row[i]);
            }
            due.is("wire(0, 12)", bus.wire(0, 12), Benches.check(row) ^ (k == 12 ? 13 : 0));
            due.is("node(0, 7), not good", bus.node(0, 7), 1);
            due.is("node(2, 5), not taken", bus.node(2, 5), 0);
            bus.tick(1);
            due.is("node(0, 7), good", bus.node(0, 7), 0);
            due.is("node(2, 5), taken", bus.node(2, 5), 1);
        }
    }

    private static void ticksWithoutATransactionLeaveIt(Due due) {
        CountedBus bus = Benches.ready(0, 5);
        bus.noise(0, 4, 3);
        bus.tick(10);
        Benches.ask(bus, 9, 1);
        bus.tick(1);
        due.is("wire(0, 4)", bus.wire(0, 4), 2);
        due.is("node(0, 7)", bus.node(0, 7), 1);
    }

    private static void eachBusHasItsOwn(Due due) {
        CountedBus bus = Benches.plugged(1, 7);
        bus.noise(0, 0, 1);
        bus.noise(1, 0, 2);
        bus.enumerate(0);
        bus.enumerate(1);
        bus.tick(2);
        due.is("wire(0, 0)", bus.wire(0, 0), 2);
        due.is("wire(1, 0)", bus.wire(1, 0), 2);
        due.is("wire(0, 1)", bus.wire(0, 1), 232);
        due.is("wire(1, 1)", bus.wire(1, 1), 7);
    }
}

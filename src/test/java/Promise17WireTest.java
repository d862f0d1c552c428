/** Promise 17: wire. */
public final class Promise17WireTest {
    public static void main(String[] args) {
        Due due = new Due();
        wrongInputs(due);
        checksThatAreKnown(due);
        lengthsFromThreeToThirteen(due);
        quietTicksLeaveIt(due);
        asItWasAfterNoise(due);
        due.end();
    }

    private static void wrongInputs(Due due) {
        CountedBus bus = Benches.ready(0, 5);
        int[][] wrong = {{-1, 0}, {2, 0}, {-1, -1}, {2, -1}, {0, -2}, {0, 3}, {0, 13}, {Integer.MAX_VALUE, 0},
            {Integer.MIN_VALUE, 0}, {0, Integer.MAX_VALUE}, {0, Integer.MIN_VALUE}, {1, 0}};
        due.is("wire(0, NONE), the last SET", bus.wire(0, -1), 3);
        for (int[] w : wrong) {
            due.is("wire(" + w[0] + ", " + w[1] + ")", bus.wire(w[0], w[1]), -1);
        }
        due.is("wire(1, NONE), never one", bus.wire(1, -1), 0);
    }

    /** Rows whose checks were worked out apart from this program. */
    private static void checksThatAreKnown(Due due) {
        int[][] identitiesAndChecks = {{500, 215}, {1000, 169}, {0, 0}, {1, 7}, {255, 243},
            {256, 21}, {65535, 36}};
        for (int[] pair : identitiesAndChecks) {
            CountedBus bus = Benches.plugged(1, pair[0]);
            bus.enumerate(1);
            bus.tick(2);
            due.is("wire(1, 2) for " + pair[0], bus.wire(1, 2), pair[1]);
        }
    }

    private static void lengthsFromThreeToThirteen(Due due) {
        for (int n = 1; n <= 8; n++) {
            CountedBus bus = Benches.ready(0, 5);
            due.is("wire(0, NONE) after SET", bus.wire(0, -1), 3);
            int[] bytes = new int[n];
            int[] row = new int[4 + n];
            row[0] = 16;
            row[1] = 9;
            row[2] = 8;
            row[3] = 200;
            for (int k = 0; k < n; k++) {
                bytes[k] = 255 - k;
                row[4 + k] = 255 - k;
            }
            Benches.ask(bus, 9, bytes);
            bus.tick(1);
            Benches.wireIs(due, bus, 0, row);
            due.is("wire(0, " + (5 + n) + ")", bus.wire(0, 5 + n), -1);
            bus.tick(1);
            Benches.wireIs(due, bus, 0, 8, 8, 9, 192, 255);
            due.is("wire(0, 6), of the row before", bus.wire(0, 6), -1);
        }
    }

    private static void quietTicksLeaveIt(Due due) {
        CountedBus bus = Benches.ready(0, 5);
        Benches.wireIs(due, bus, 0, 17, 10);
        bus.tick(50);
        Benches.wireIs(due, bus, 0, 17, 10);
        bus.enumerate(0);
        bus.tick(1);
        Benches.wireIs(due, bus, 0, 17, 10);
        bus.tick(1);
        Benches.wireIs(due, bus, 0, 0, 5);
        due.is("wire(1, NONE)", bus.wire(1, -1), 0);
    }

    private static void asItWasAfterNoise(Due due) {
        CountedBus bus = Benches.ready(0, 5);
        Benches.ask(bus, 9, 1);
        bus.noise(0, 5, 255);
        bus.tick(1);
        due.is("wire(0, 4)", bus.wire(0, 4), 1);
        int check = Benches.check(16, 9, 8, 200, 1) ^ 255;
        due.is("wire(0, 5)", bus.wire(0, 5), check);
        due.is("wire(0, NONE)", bus.wire(0, -1), 6);
        bus.noise(0, 6, 255);
        due.is("wire(0, 5), noise waits for the next one", bus.wire(0, 5), check);
        bus.tick(1);
        Benches.wireIs(due, bus, 0, 16, 9, 8, 200, 1);
    }
}

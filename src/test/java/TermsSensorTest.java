/** Under "Terms": the bounds of value, LOW, HIGH and SLACK, and of place and n in the block. */
public final class TermsSensorTest {
    public static void main(String[] args) {
        Due due = new Due();
        boundsOfTheValue(due);
        boundsAtFirst(due);
        widestBounds(due);
        oneWithinTheWidest(due);
        greatestSlack(due);
        slackBeyondTheEnds(due);
        slackAcrossTheOtherBound(due);
        newBoundsAndTheState(due);
        everyByteOfABound(due);
        everySlack(due);
        onlyChangesAreTold(due);
        everyFirstByte(due);
        placesAndCountsToRead(due);
        placesAndCountsToWrite(due);
        lengthsOfCommands(due);
        due.end();
    }

    private static void states(Due due, CountedBus bus, int d, int[]... valuesAndStates) {
        for (int[] pair : valuesAndStates) {
            due.yes("sensor(" + d + ", " + pair[0] + ")", bus.sensor(d, pair[0]));
            due.is("sense(" + d + ", 0)", bus.sense(d, 0), pair[0]);
            due.is("sense(" + d + ", 1) at " + pair[0], bus.sense(d, 1), pair[1]);
        }
    }

    /** Device 2 with these bounds, its value 0, and the state that this value has then. */
    private static CountedBus bounded(int low, int high, int slack) {
        CountedBus bus = Benches.ready(0, 5);
        Benches.setBounds(bus, 9, low, high, slack);
        return bus;
    }

    private static void boundsOfTheValue(Due due) {
        for (int d = 1; d <= 6; d++) {
            CountedBus bus = Benches.plugged(d % 2, 2, 3, 4, 5, 6);
            states(due, bus, d, new int[][] {{32767, 2}, {-32768, 1}, {0, 0}});
            due.no("sensor(d, 32768)", bus.sensor(d, 32768));
            due.no("sensor(d, -32769)", bus.sensor(d, -32769));
            due.is("sense(d, 0)", bus.sense(d, 0), 0);
            due.is("sense(d, 1)", bus.sense(d, 1), 0);
        }
    }

    private static void boundsAtFirst(Due due) {
        for (int d = 1; d <= 2; d++) {
            CountedBus bus = Benches.plugged(0, 5);
            states(due, bus, d, new int[][] {{1000, 0}, {1001, 2}, {1000, 2}, {999, 0}, {1000, 0},
                {-1000, 0}, {-1001, 1}, {-1000, 1}, {-999, 0}, {-1000, 0},
                {1001, 2}, {-1001, 1}, {1001, 2}, {-1000, 0}, {-1001, 1}, {1000, 0}});
        }
    }

    /** No value is beyond the widest bounds. */
    private static void widestBounds(Due due) {
        int[] slacks = {0, 255};
        for (int slack : slacks) {
            CountedBus bus = bounded(-32768, 32767, slack);
            due.is("sense(2, 2)", bus.sense(2, 2), -32768);
            due.is("sense(2, 3)", bus.sense(2, 3), 32767);
            states(due, bus, 2, new int[][] {{32767, 0}, {-32768, 0}, {0, 0}});
        }
    }

    private static void oneWithinTheWidest(Due due) {
        states(due, bounded(-32767, 32766, 0), 2, new int[][] {{32766, 0}, {32767, 2}, {32766, 2},
            {32765, 0}, {-32767, 0}, {-32768, 1}, {-32767, 1}, {-32766, 0}});
    }

    private static void greatestSlack(Due due) {
        states(due, bounded(-32767, 32766, 255), 2, new int[][] {{32511, 0}, {32767, 2}, {32511, 2},
            {32510, 0}, {-32512, 0}, {-32768, 1}, {-32512, 1}, {-32511, 0}});
        states(due, bounded(-1, 1, 1), 2, new int[][] {{0, 0}, {2, 2}, {0, 2}, {-1, 0}, {0, 0},
            {-2, 1}, {0, 1}, {1, 0}});
    }

    /** HIGH - SLACK and LOW + SLACK are numbers that no value can reach; nothing turns round. */
    private static void slackBeyondTheEnds(Due due) {
        CountedBus above = bounded(-32768, -32768, 255);
        due.is("sense(2, 1), 0 is above", above.sense(2, 1), 2);
        states(due, above, 2, new int[][] {{-32768, 2}, {32767, 2}, {-32768, 2}});
        CountedBus below = bounded(32767, 32767, 255);
        due.is("sense(2, 1), 0 is below", below.sense(2, 1), 1);
        states(due, below, 2, new int[][] {{32767, 1}, {-32768, 1}, {32767, 1}});
        CountedBus exact = bounded(-32768, -32767, 0);
        states(due, exact, 2, new int[][] {{-32767, 2}, {-32768, 0}, {-32767, 0}, {-32766, 2}});
    }

    /** ABOVE holds down to HIGH - SLACK, also where that is below LOW. */
    private static void slackAcrossTheOtherBound(Due due) {
        states(due, bounded(-10, 10, 30), 2, new int[][] {{11, 2}, {-11, 2}, {-20, 2}, {-21, 1},
            {10, 1}, {11, 2}, {-21, 1}, {20, 2}});
        states(due, bounded(10, -10, 0), 2, new int[][] {{-10, 2}, {-11, 1}, {-10, 1}, {-9, 2}, {9, 2},
            {10, 2}});
    }

    /** New bounds sense at once: they change the state, or hold it by their slack. */
    private static void newBoundsAndTheState(Due due) {
        int[][] cases = {{100, 0, 50, 0, 2}, {100, 0, 100, 0, 2}, {100, 0, 101, 0, 0}, {100, 0, 110, 10, 2},
            {100, 0, 111, 10, 0}, {100, 101, 200, 0, 1}, {100, 100, 200, 0, 0}, {100, 101, 355, 255, 2},
            {100, 101, 356, 255, 1}};
        for (int[] c : cases) {
            CountedBus bus = Benches.ready(0, 5);
            Benches.setReceiver(bus, 9, 8);
            Benches.setBounds(bus, 9, -1000, 99, 0);
            bus.sensor(2, c[0]);
            bus.tick(2);
            due.is("sense(2, 1), above", bus.sense(2, 1), 2);
            Benches.setBounds(bus, 9, c[1], c[2], c[3]);
            due.is("sense(2, 1) with " + c[1] + ", " + c[2] + ", " + c[3], bus.sense(2, 1), c[4]);
            due.is("sense(2, 6)", bus.sense(2, 6), c[4] == 2 ? 1 : 2);
            due.is("event(0, 1)", bus.event(0, 1), c[4]);
        }
    }

    private static void everyByteOfABound(Due due) {
        int[] bounds = {0, 1, 127, 128, 255, 256, 32511, 32512, 32767, -1, -128, -129, -255, -256, -257,
            -32767, -32768};
        CountedBus bus = Benches.ready(0, 5);
        for (int bound : bounds) {
            Benches.setBounds(bus, 9, bound, -1 - bound, 0);
            due.is("sense(2, 2)", bus.sense(2, 2), bound);
            due.is("sense(2, 3)", bus.sense(2, 3), -1 - bound);
        }
    }

    private static void everySlack(Due due) {
        int[] slacks = {1, 127, 128, 254, 255, 0};
        CountedBus bus = Benches.ready(0, 5);
        for (int slack : slacks) {
            Benches.setBounds(bus, 9, -400, 400, slack);
            due.is("sense(2, 4)", bus.sense(2, 4), slack);
            states(due, bus, 2, new int[][] {{401, 2}, {400 - slack, 2}, {399 - slack, 0}, {-401, 1},
                {slack - 400, 1}, {slack - 399, 0}});
        }
    }

    /** Each change of the state is an event, and nothing else is. */
    private static void onlyChangesAreTold(Due due) {
        CountedBus bus = Benches.ready(0, 5);
        Benches.setReceiver(bus, 9, 8);
        int[] values = {1000, 1001, 1002, 1000, 999, 0, -1000, -1001, -1000, -999, 1001, -1001, 0};
        int[] counts = {0, 1, 1, 1, 2, 2, 2, 3, 3, 4, 5, 6, 7};
        for (int i = 0; i < values.length; i++) {
            int before = i == 0 ? 0 : counts[i - 1];
            bus.sensor(2, values[i]);
            due.is("sense(2, 6) at " + values[i], bus.sense(2, 6), counts[i]);
            due.is("node(2, 5) at " + values[i], bus.node(2, 5), counts[i] - before);
            bus.tick(1);
        }
    }

    /** Of the messages of one byte only 1 is known. */
    private static void everyFirstByte(Due due) {
        CountedBus bus = null;
        for (int first = 0; first < 256; first++) {
            if (first % 40 == 0) {
                bus = Benches.ready(0, 5);
            }
            int r = Benches.ask(bus, 9, first);
            bus.tick(2);
            due.is("request(r, 4) to " + first, bus.request(r, 4), first == 1 ? 4 : 1);
            due.is("answer(r, 0) to " + first, bus.answer(r, 0), first == 1 ? 129 : 255);
        }
    }

    private static final int[] PLACES = {0, 1, 2, 11, 12, 13, 22, 23, 24, 25, 127, 128, 231, 232, 233, 255};
    private static final int[] COUNTS = {0, 1, 2, 11, 12, 13, 22, 23, 24, 25, 128, 232, 255};

    private static void placesAndCountsToRead(Due due) {
        for (int place : PLACES) {
            CountedBus bus = Benches.ready(0, 5);
            int[] fill = new int[26];
            for (int k = 0; k < 24; k++) {
                fill[2 + k] = 50 + k;
            }
            fill[0] = 5;
            Benches.ask(bus, 9, fill);
            bus.tick(5);
            for (int n : COUNTS) {
                boolean fits = n >= 1 && n <= 24 && place + n <= 24;
                int r = Benches.ask(bus, 9, 4, place, n);
                bus.tick(6);
                due.is("answer(r, 0) to 4, " + place + ", " + n, bus.answer(r, 0), fits ? 132 : 255);
                due.is("request(r, 4)", bus.request(r, 4), fits ? 1 + n : 1);
                due.is("answer(r, 1)", bus.answer(r, 1), fits ? 50 + place : -1);
                due.is("answer(r, n)", bus.answer(r, n), n == 0 ? 255 : fits ? 49 + place + n : -1);
            }
        }
    }

    private static void placesAndCountsToWrite(Due due) {
        for (int place : PLACES) {
            for (int n = 0; n <= 30; n++) {
                if (n > 3 && n < 9) {
                    continue;
                }
                CountedBus bus = Benches.ready(0, 5);
                int[] message = new int[2 + n];
                message[0] = 5;
                message[1] = place;
                for (int k = 0; k < n; k++) {
                    message[2 + k] = 200 - k;
                }
                boolean fits = n >= 1 && n <= 24 && place + n <= 24;
                int r = Benches.ask(bus, 9, message);
                bus.tick(6);
                due.is("answer(r, 0) to 5, " + place + ", " + n + " bytes", bus.answer(r, 0), fits ? 133 : 255);
                for (int k = 0; k < 24; k++) {
                    boolean written = fits && k >= place && k < place + n;
                    due.is("block(2, " + k + ")", bus.block(2, k), written ? 200 - (k - place) : 0);
                }
            }
        }
    }

    /** Each command with one byte less and one more than it has. */
    private static void lengthsOfCommands(Due due) {
        int[][] commandsAndLengths = {{1, 1}, {2, 6}, {3, 2}, {4, 3}};
        for (int[] pair : commandsAndLengths) {
            for (int n = 1; n <= 32; n++) {
                CountedBus bus = Benches.ready(0, 5);
                int[] message = new int[n];
                java.util.Arrays.fill(message, 1);
                message[0] = pair[0];
                int r = Benches.ask(bus, 9, message);
                bus.tick(8);
                int want = n == pair[1] ? 128 + pair[0] : 255;
                due.is("answer(r, 0) to " + pair[0] + " with " + n + " bytes", bus.answer(r, 0), want);
                due.is("sense(2, 2)", bus.sense(2, 2), want == 130 ? 257 : -1000);
                due.is("sense(2, 3)", bus.sense(2, 3), want == 130 ? 257 : 1000);
                due.is("sense(2, 4)", bus.sense(2, 4), want == 130 ? 1 : 0);
                due.is("sense(2, 5)", bus.sense(2, 5), want == 131 ? 1 : 0);
                due.is("block(2, 1)", bus.block(2, 1), 0);
            }
        }
    }
}

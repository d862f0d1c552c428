/** Promise 13: block, and the commands that read and write it. */
public final class Promise13BlockTest {
    public static void main(String[] args) {
        Due due = new Due();
        wrongInputs(due);
        writtenAndRead(due);
        theWholeBlock(due);
        placesAndCountsThatDoNotFit(due);
        blocksAreApart(due);
        due.end();
    }

    private static void wrongInputs(Due due) {
        CountedBus bus = Benches.ready(0, 5);
        int[][] wrong = {{-1, 0}, {0, 0}, {3, 0}, {7, 0}, {2, -1}, {2, 24}, {1, -1}, {1, 24},
            {Integer.MAX_VALUE, 0}, {Integer.MIN_VALUE, 0}, {2, Integer.MAX_VALUE}, {2, Integer.MIN_VALUE}};
        for (int[] w : wrong) {
            due.is("block(" + w[0] + ", " + w[1] + ")", bus.block(w[0], w[1]), -1);
        }
        due.is("block(2, 0)", bus.block(2, 0), 0);
        due.is("block(2, 23)", bus.block(2, 23), 0);
        due.is("block(1, 23)", bus.block(1, 23), 0);
        bus.unplug(2);
        due.is("block(2, 0), unplugged", bus.block(2, 0), -1);
    }

    private static void blockIs(Due due, CountedBus bus, int d, int from, int... bytes) {
        for (int k = 0; k < 24; k++) {
            int want = k >= from && k < from + bytes.length ? bytes[k - from] : 0;
            due.is("block(" + d + ", " + k + ")", bus.block(d, k), want);
        }
    }

    private static void writtenAndRead(Due due) {
        CountedBus bus = Benches.ready(0, 5);
        Benches.answered(due, bus, Benches.ask(bus, 9, 5, 3, 255, 7, 9), 133);
        blockIs(due, bus, 2, 3, 255, 7, 9);
        Benches.answered(due, bus, Benches.ask(bus, 9, 4, 2, 5), 132, 0, 255, 7, 9, 0);
        Benches.answered(due, bus, Benches.ask(bus, 9, 4, 4, 1), 132, 7);
        Benches.answered(due, bus, Benches.ask(bus, 9, 5, 4, 1), 133);
        blockIs(due, bus, 2, 3, 255, 1, 9);
        Benches.answered(due, bus, Benches.ask(bus, 9, 5, 3, 0, 0, 0), 133);
        Benches.answered(due, bus, Benches.ask(bus, 9, 5, 23, 8), 133);
        blockIs(due, bus, 2, 23, 8);
        Benches.answered(due, bus, Benches.ask(bus, 9, 4, 23, 1), 132, 8);
    }

    private static void theWholeBlock(Due due) {
        CountedBus bus = Benches.ready(1, 5);
        int[] message = new int[26];
        int[] answer = new int[25];
        int[] block = new int[24];
        message[0] = 5;
        answer[0] = 132;
        for (int k = 0; k < 24; k++) {
            block[k] = 200 - 3 * k;
            message[2 + k] = block[k];
            answer[1 + k] = block[k];
        }
        Benches.answered(due, bus, Benches.ask(bus, 32, message), 133);
        blockIs(due, bus, 2, 0, block);
        int r = Benches.ask(bus, 32, 4, 0, 24);
        bus.tick(1);
        due.is("node(2, 5)", bus.node(2, 5), 4);
        Benches.answered(due, bus, r, answer);
        Benches.answered(due, bus, Benches.ask(bus, 32, 4, 16, 7),
            132, block[16], block[17], block[18], block[19], block[20], block[21], block[22]);
    }

    private static void placesAndCountsThatDoNotFit(Due due) {
        int[] tooLong = new int[27];
        tooLong[0] = 5;
        tooLong[2] = 9;
        int[] longest = new int[32];
        longest[0] = 5;
        longest[2] = 9;
        int[] shifted = new int[26];
        shifted[0] = 5;
        shifted[1] = 1;
        shifted[2] = 9;
        int[][] wrong = {{4}, {4, 0}, {4, 0, 0}, {4, 0, 25}, {4, 1, 24}, {4, 23, 2}, {4, 24, 1}, {4, 24, 0},
            {4, 255, 1}, {4, 0, 255}, {4, 0, 1, 1}, {5}, {5, 0}, {5, 24}, {5, 24, 9}, {5, 23, 9, 9},
            {5, 255, 9}, tooLong, longest, shifted};
        for (int[] message : wrong) {
            CountedBus bus = Benches.ready(0, 5);
            Benches.answered(due, bus, Benches.ask(bus, 9, message), 255);
            blockIs(due, bus, 2, 0);
        }
    }

    private static void blocksAreApart(Due due) {
        CountedBus bus = Benches.ready(0, 5, 6);
        Benches.answered(due, bus, Benches.ask(bus, 9, 5, 0, 1), 133);
        Benches.answered(due, bus, Benches.ask(bus, 10, 5, 0, 2), 133);
        Benches.answered(due, bus, Benches.ask(bus, 11, 5, 0, 3), 133);
        blockIs(due, bus, 2, 0, 1);
        blockIs(due, bus, 3, 0, 2);
        blockIs(due, bus, 1, 0, 3);
    }
}

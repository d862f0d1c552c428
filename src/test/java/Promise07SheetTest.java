/** Promise 7: sheet. */
public final class Promise07SheetTest {
    public static void main(String[] args) {
        Due due = new Due();
        wrongInputsChangeNothing(due);
        zeroAtFirst(due);
        allBytesGoOut(due);
        aRequestKeepsItsBytes(due);
        due.end();
    }

    private static void wrongInputsChangeNothing(Due due) {
        CountedBus bus = Benches.ready(0, 5);
        due.yes("sheet(0, 99)", bus.sheet(0, 99));
        int[][] wrong = {{-1, 1}, {32, 1}, {0, -1}, {0, 256}, {Integer.MAX_VALUE, 1}, {0, Integer.MIN_VALUE}};
        for (int[] w : wrong) {
            due.no("sheet(" + w[0] + ", " + w[1] + ")", bus.sheet(w[0], w[1]));
        }
        bus.ask(9, 1);
        bus.tick(1);
        due.is("wire(0, 4)", bus.wire(0, 4), 99);
    }

    private static void zeroAtFirst(Due due) {
        CountedBus bus = Benches.ready(0, 5);
        bus.ask(9, 32);
        int[] flags = {136, 24, 40, 120};
        for (int packet = 0; packet < 4; packet++) {
            bus.tick(1);
            Benches.wireIs(due, bus, 0, 16, 9, 8, flags[packet], 0, 0, 0, 0, 0, 0, 0, 0);
        }
    }

    private static void allBytesGoOut(Due due) {
        CountedBus bus = Benches.ready(0, 5);
        for (int k = 0; k < 32; k++) {
            due.yes("sheet(" + k + ", " + (255 - 8 * k) + ")", bus.sheet(k, 255 - 8 * k));
        }
        bus.ask(9, 32);
        for (int k = 0; k < 32; k++) {
            if (k % 8 == 0) {
                bus.tick(1);
            }
            due.is("wire(0, " + (4 + k % 8) + ")", bus.wire(0, 4 + k % 8), 255 - 8 * k);
        }
    }

    private static void aRequestKeepsItsBytes(Due due) {
        CountedBus bus = Benches.ready(0, 5);
        Benches.ask(bus, 20, 7, 8);
        bus.sheet(0, 50);
        bus.sheet(1, 60);
        bus.tick(1);
        Benches.wireIs(due, bus, 0, 27, 20, 8, 200, 7, 8);
        bus.tick(2);
        due.is("node(0, 5), dropped", bus.node(0, 5), 0);
        bus.tick(27);
        due.is("node(0, 5), sent again", bus.node(0, 5), 1);
        Benches.ask(bus, 9, 1);
        bus.tick(1);
        Benches.wireIs(due, bus, 0, 27, 20, 8, 200, 7, 8);
    }
}

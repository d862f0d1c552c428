/** Promise 11: node. */
public final class Promise11NodeTest {
    public static void main(String[] args) {
        Due due = new Due();
        wrongInputs(due);
        allNodesWhenReady(due);
        outputsAndTries(due);
        outputsOfTheBridge(due);
        due.end();
    }

    private static void nodeIs(Due due, CountedBus bus, int d, int... want) {
        for (int what = 0; what < 8; what++) {
            due.is("node(" + d + ", " + what + ")", bus.node(d, what), want[what]);
        }
        due.is("node(" + d + ", -1)", bus.node(d, -1), -1);
        due.is("node(" + d + ", 8)", bus.node(d, 8), -1);
    }

    private static void wrongInputs(Due due) {
        CountedBus bus = Benches.ready(0, 5);
        int[][] wrong = {{-1, 0}, {7, 0}, {3, 0}, {3, 4}, {Integer.MAX_VALUE, 1}, {Integer.MIN_VALUE, 1},
            {0, Integer.MAX_VALUE}, {0, Integer.MIN_VALUE}};
        for (int[] w : wrong) {
            due.is("node(" + w[0] + ", " + w[1] + ")", bus.node(w[0], w[1]), -1);
        }
    }

    private static void allNodesWhenReady(Due due) {
        CountedBus bus = Benches.plugged(0, 5, 2000);
        bus.plug(6, 1, 300);
        bus.enumerate(0);
        bus.enumerate(1);
        bus.tick(10);
        nodeIs(due, bus, 0, 0, 0, 8, 1, 8, 0, 0, 0);
        nodeIs(due, bus, 1, 0, 1000, 17, 1, 10, 0, 0, 0);
        nodeIs(due, bus, 2, 0, 5, 16, 1, 9, 0, 0, 0);
        nodeIs(due, bus, 3, 0, 2000, 18, 1, 11, 0, 0, 0);
        nodeIs(due, bus, 4, -1, -1, -1, -1, -1, -1, -1, -1);
        nodeIs(due, bus, 6, 1, 300, 16, 1, 32, 0, 0, 0);
        bus.unplug(6);
        nodeIs(due, bus, 6, -1, -1, -1, -1, -1, -1, -1, -1);
    }

    private static void outputsAndTries(Due due) {
        CountedBus bus = Benches.ready(0, 5);
        Benches.ask(bus, 9, 4, 0, 24);
        due.is("node(0, 5)", bus.node(0, 5), 1);
        bus.tick(1);
        due.is("node(0, 5)", bus.node(0, 5), 0);
        due.is("node(2, 5), 25 bytes", bus.node(2, 5), 4);
        due.is("node(2, 6)", bus.node(2, 6), 0);
        bus.noise(0, 0, 1);
        bus.tick(1);
        due.is("node(2, 7)", bus.node(2, 7), 1);
        due.is("node(0, 7)", bus.node(0, 7), 0);
        bus.noise(0, 0, 1);
        bus.tick(1);
        due.is("node(2, 7)", bus.node(2, 7), 2);
        due.is("node(2, 5)", bus.node(2, 5), 4);
        bus.tick(1);
        due.is("node(2, 7)", bus.node(2, 7), 0);
        due.is("node(2, 5)", bus.node(2, 5), 3);
    }

    private static void outputsOfTheBridge(Due due) {
        CountedBus bus = Benches.ready(1, 5);
        bus.enumerate(1);
        for (int i = 0; i < 4; i++) {
            Benches.ask(bus, 32, 1);
        }
        bus.tick(3);
        due.is("node(1, 6), waits while bus 1 is enumerated", bus.node(1, 6), 3);
        due.is("node(1, 5)", bus.node(1, 5), 0);
        bus.tick(1);
        bus.noise(1, 0, 1);
        bus.tick(1);
        due.is("node(1, 6), one that was not good", bus.node(1, 6), 4);
        due.is("node(1, 7), the other port's", bus.node(1, 7), 0);
        theBridgeIsFull(due);
    }

    private static void theBridgeIsFull(Due due) {
        CountedBus full = Benches.ready(1, 5);
        full.ask(63, 32);
        full.ask(63, 32);
        full.enumerate(1);
        full.tick(4);
        Benches.ask(full, 32, 1);
        full.enumerate(1);
        full.tick(4);
        due.is("node(1, 6), full", full.node(1, 6), 8);
        full.enumerate(1);
        full.tick(1);
        due.is("node(0, 5), taken all the same", full.node(0, 5), 0);
        due.is("node(1, 6), full", full.node(1, 6), 8);
    }
}

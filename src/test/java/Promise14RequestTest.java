/** Promise 14: request. */
public final class Promise14RequestTest {
    public static void main(String[] args) {
        Due due = new Due();
        wrongInputs(due);
        fromWaitingToAnswered(due);
        fromWaitingToLost(due);
        answeredWhenSentAgain(due);
        theFirstThatWaits(due);
        endpointAndTagMustFit(due);
        eachHasItsOwnTimer(due);
        due.end();
    }

    private static void requestIs(Due due, CountedBus bus, int r, int... want) {
        for (int what = 0; what < 5; what++) {
            due.is("request(" + r + ", " + what + ")", bus.request(r, what), want[what]);
        }
    }

    private static void wrongInputs(Due due) {
        CountedBus bus = Benches.ready(0, 5);
        Benches.ask(bus, 9, 1);
        int[][] wrong = {{-1, 0}, {1, 0}, {39, 0}, {40, 0}, {0, -1}, {0, 5}, {Integer.MAX_VALUE, 0},
            {Integer.MIN_VALUE, 0}, {0, Integer.MAX_VALUE}};
        for (int[] w : wrong) {
            due.is("request(" + w[0] + ", " + w[1] + ")", bus.request(w[0], w[1]), -1);
        }
    }

    private static void fromWaitingToAnswered(Due due) {
        CountedBus bus = Benches.ready(0, 5);
        int r = Benches.ask(bus, 9, 1);
        requestIs(due, bus, r, 1, 9, 30, 1, 0);
        bus.tick(1);
        requestIs(due, bus, r, 1, 9, 29, 1, 0);
        bus.tick(1);
        requestIs(due, bus, r, 2, 9, 29, 1, 4);
        bus.tick(100);
        requestIs(due, bus, r, 2, 9, 29, 1, 4);
    }

    private static void fromWaitingToLost(Due due) {
        CountedBus bus = Benches.ready(0, 5);
        int r = Benches.ask(bus, 20, 1);
        bus.tick(29);
        requestIs(due, bus, r, 1, 20, 1, 1, 0);
        due.is("node(0, 5)", bus.node(0, 5), 0);
        bus.tick(1);
        requestIs(due, bus, r, 1, 20, 30, 2, 0);
        due.is("node(0, 5), sent again", bus.node(0, 5), 1);
        bus.tick(30);
        requestIs(due, bus, r, 1, 20, 30, 3, 0);
        due.is("node(0, 5), sent again", bus.node(0, 5), 1);
        bus.tick(29);
        requestIs(due, bus, r, 1, 20, 1, 3, 0);
        bus.tick(1);
        requestIs(due, bus, r, 3, 20, 0, 3, 0);
        due.is("node(0, 5), not sent once more", bus.node(0, 5), 0);
        bus.tick(100);
        requestIs(due, bus, r, 3, 20, 0, 3, 0);
    }

    private static void answeredWhenSentAgain(Due due) {
        CountedBus bus = Benches.ready(0, 5);
        int r = Benches.ask(bus, 9, 1);
        for (int i = 0; i < 3; i++) {
            bus.noise(0, 3, 64);
            bus.tick(1);
        }
        bus.tick(27);
        requestIs(due, bus, r, 1, 9, 30, 2, 0);
        bus.tick(2);
        requestIs(due, bus, r, 2, 9, 29, 2, 4);
    }

    private static void theFirstThatWaits(Due due) {
        CountedBus bus = Benches.ready(0, 5, 5);
        Benches.ask(bus, 9, 1);
        for (int r = 1; r < 8; r++) {
            bus.ask(20, 32);
        }
        due.is("ask(9, 1)", Benches.ask(bus, 9, 1), 8);
        bus.tick(2);
        requestIs(due, bus, 0, 2, 9, 29, 1, 4);
        requestIs(due, bus, 8, 1, 9, 28, 1, 0);
        bus.tick(1);
        due.is("request(8, 0), the second device's answer has its tag", bus.request(8, 0), 2);
        due.is("request(8, 2)", bus.request(8, 2), 28);
    }

    private static void endpointAndTagMustFit(Due due) {
        CountedBus bus = Benches.ready(0, 5, 5, 6);
        Benches.ask(bus, 9, 1);
        Benches.ask(bus, 10, 1);
        bus.tick(3);
        due.is("request(0, 0)", bus.request(0, 0), 2);
        due.is("request(1, 0), answers of 9 are not for it", bus.request(1, 0), 1);
        bus.tick(2);
        due.is("request(1, 0)", bus.request(1, 0), 2);
        CountedBus other = Benches.ready(0, 5, 5);
        Benches.ask(other, 9, 1);
        Benches.ask(other, 9, 2);
        other.tick(3);
        due.is("request(0, 0)", other.request(0, 0), 2);
        due.is("request(1, 0), tag 0 is not for it", other.request(1, 0), 1);
        lostOnesAreNotAnswered(due);
    }

    private static void lostOnesAreNotAnswered(Due due) {
        CountedBus bus = Benches.ready(0, 5);
        int r = Benches.ask(bus, 9, 1);
        bus.unplug(2);
        bus.tick(89);
        bus.plug(2, 0, 5);
        bus.enumerate(0);
        bus.tick(1);
        requestIs(due, bus, r, 3, 9, 0, 3, 0);
        bus.tick(20);
        requestIs(due, bus, r, 3, 9, 0, 3, 0);
    }

    private static void eachHasItsOwnTimer(Due due) {
        CountedBus bus = Benches.ready(0, 5);
        Benches.ask(bus, 20, 1);
        bus.tick(10);
        Benches.ask(bus, 21, 1);
        bus.tick(20);
        requestIs(due, bus, 0, 1, 20, 30, 2, 0);
        requestIs(due, bus, 1, 1, 21, 10, 1, 0);
        bus.tick(10);
        requestIs(due, bus, 0, 1, 20, 20, 2, 0);
        requestIs(due, bus, 1, 1, 21, 30, 2, 0);
    }
}

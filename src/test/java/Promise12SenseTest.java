/** Promise 12: sense, and the commands that change a sensor. */
public final class Promise12SenseTest {
    public static void main(String[] args) {
        Due due = new Due();
        wrongInputs(due);
        allOfASensor(due);
        stateIsTold(due);
        boundsWithSign(due);
        receiverIsAnyByte(due);
        commandsThatAreNotAsSaid(due);
        due.end();
    }

    private static void senseIs(Due due, CountedBus bus, int d, int... want) {
        for (int what = 0; what < 7; what++) {
            due.is("sense(" + d + ", " + what + ")", bus.sense(d, what), want[what]);
        }
    }

    private static void wrongInputs(Due due) {
        CountedBus bus = Benches.ready(0, 5);
        int[][] wrong = {{-1, 2}, {0, 2}, {0, 3}, {3, 2}, {7, 2}, {2, -1}, {2, 7}, {1, -1}, {1, 7},
            {Integer.MAX_VALUE, 2}, {Integer.MIN_VALUE, 2}};
        for (int[] w : wrong) {
            due.is("sense(" + w[0] + ", " + w[1] + ")", bus.sense(w[0], w[1]), 0);
        }
        bus.unplug(2);
        due.is("sense(2, 2), unplugged", bus.sense(2, 2), 0);
    }

    private static void allOfASensor(Due due) {
        CountedBus bus = Benches.ready(0, 5);
        senseIs(due, bus, 2, 0, 0, -1000, 1000, 0, 0, 0);
        Benches.setReceiver(bus, 9, 8);
        senseIs(due, bus, 2, 0, 0, -1000, 1000, 0, 8, 0);
        Benches.setBounds(bus, 9, -300, 400, 200);
        senseIs(due, bus, 2, 0, 0, -300, 400, 200, 8, 0);
        bus.sensor(2, -301);
        senseIs(due, bus, 2, -301, 1, -300, 400, 200, 8, 1);
        bus.sensor(2, 401);
        senseIs(due, bus, 2, 401, 2, -300, 400, 200, 8, 2);
        senseIs(due, bus, 1, 0, 0, -1000, 1000, 0, 0, 0);
        Benches.setReceiver(bus, 10, 7);
        Benches.setBounds(bus, 10, 1, 2, 3);
        senseIs(due, bus, 1, 0, 1, 1, 2, 3, 7, 1);
    }

    private static void stateIsTold(Due due) {
        CountedBus bus = Benches.ready(1, 5);
        bus.sensor(2, -1002);
        Benches.answered(due, bus, Benches.ask(bus, 32, 1), 129, 1, 252, 22);
        bus.sensor(1, 32767);
        Benches.answered(due, bus, Benches.ask(bus, 9, 1), 129, 2, 127, 255);
        bus.sensor(1, -1);
        Benches.answered(due, bus, Benches.ask(bus, 9, 1), 129, 0, 255, 255);
    }

    private static void boundsWithSign(Due due) {
        CountedBus bus = Benches.ready(0, 5);
        Benches.answered(due, bus, Benches.ask(bus, 9, 2, 128, 0, 127, 255, 255), 130);
        senseIs(due, bus, 2, 0, 0, -32768, 32767, 255, 0, 0);
        bus.sensor(2, -32768);
        due.is("sense(2, 1)", bus.sense(2, 1), 0);
        Benches.answered(due, bus, Benches.ask(bus, 9, 2, 127, 255, 128, 0, 0), 130);
        senseIs(due, bus, 2, -32768, 1, 32767, -32768, 0, 0, 0);
        Benches.answered(due, bus, Benches.ask(bus, 9, 2, 0, 255, 1, 0, 1), 130);
        senseIs(due, bus, 2, -32768, 1, 255, 256, 1, 0, 0);
    }

    private static void receiverIsAnyByte(Due due) {
        CountedBus bus = Benches.ready(0, 5);
        int[] receivers = {255, 0, 63, 64, 8};
        for (int receiver : receivers) {
            Benches.answered(due, bus, Benches.ask(bus, 9, 3, receiver), 131);
            due.is("sense(2, 5)", bus.sense(2, 5), receiver);
        }
    }

    private static void commandsThatAreNotAsSaid(Due due) {
        int[][] wrong = {{0}, {6}, {64, 2, 0, 0}, {129}, {255}, {1, 0}, {1, 1, 1}, {2}, {2, 0, 1, 0, 2},
            {2, 0, 1, 0, 2, 3, 0}, {3}, {3, 8, 0}};
        for (int[] message : wrong) {
            CountedBus bus = Benches.ready(0, 5);
            Benches.answered(due, bus, Benches.ask(bus, 9, message), 255);
            senseIs(due, bus, 2, 0, 0, -1000, 1000, 0, 0, 0);
            due.is("event(0, 0)", bus.event(0, 0), -40000);
        }
    }
}

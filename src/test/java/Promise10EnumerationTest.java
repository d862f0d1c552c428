/** Promise 10: enumeration (Promise04EnumerateTest looks at it in every stage). */
public final class Promise10EnumerationTest {
    public static void main(String[] args) {
        Due due = new Due();
        wrongInputs(due);
        allStates(due);
        theLatestOneCounts(due);
        due.end();
    }

    private static void wrongInputs(Due due) {
        CountedBus bus = Benches.ready(0, 5);
        int[][] wrong = {{-1, 0}, {2, 0}, {0, -1}, {0, 3}, {1, 3},
            {Integer.MAX_VALUE, 0}, {0, Integer.MIN_VALUE}};
        for (int[] w : wrong) {
            due.is("enumeration(" + w[0] + ", " + w[1] + ")", bus.enumeration(w[0], w[1]), -1);
        }
    }

    private static void allStates(Due due) {
        CountedBus bus = Benches.plugged(1, 7, 8);
        Benches.enumerationIs(due, bus, 1, 0, 0, 0);
        bus.enumerate(1);
        Benches.enumerationIs(due, bus, 1, 1, 0, 0);
        Benches.enumerationIs(due, bus, 0, 0, 0, 0);
        bus.tick(3);
        Benches.enumerationIs(due, bus, 1, 1, 1, 0);
        bus.tick(2);
        Benches.enumerationIs(due, bus, 1, 1, 2, 0);
        bus.noise(1, 0, 1);
        bus.tick(1);
        Benches.enumerationIs(due, bus, 1, 1, 2, 1);
        bus.tick(2);
        Benches.enumerationIs(due, bus, 1, 2, 2, 0);
    }

    private static void theLatestOneCounts(Due due) {
        CountedBus bus = Benches.ready(1, 7, 8);
        Benches.enumerationIs(due, bus, 1, 2, 2, 0);
        bus.enumerate(1);
        Benches.enumerationIs(due, bus, 1, 1, 2, 0);
        bus.tick(1);
        Benches.enumerationIs(due, bus, 1, 1, 0, 0);
        bus.tick(2);
        for (int i = 0; i < 3; i++) {
            bus.noise(1, 0, 1);
            bus.tick(1);
        }
        Benches.enumerationIs(due, bus, 1, 3, 1, 0);
        bus.unplug(2);
        Benches.enumerationIs(due, bus, 1, 3, 1, 0);
        bus.enumerate(1);
        bus.tick(4);
        Benches.enumerationIs(due, bus, 1, 2, 1, 0);
    }
}

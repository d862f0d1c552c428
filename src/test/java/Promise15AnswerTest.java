/** Promise 15: answer. */
public final class Promise15AnswerTest {
    public static void main(String[] args) {
        Due due = new Due();
        nothingBeforeItCame(due);
        allBytesOfAnAnswer(due);
        answersAreApart(due);
        due.end();
    }

    private static void nothingBeforeItCame(Due due) {
        CountedBus bus = Benches.ready(0, 5);
        due.is("answer(0, 0), no request", bus.answer(0, 0), -1);
        Benches.ask(bus, 9, 4, 0, 24);
        due.is("answer(0, 0), asked", bus.answer(0, 0), -1);
        bus.tick(4);
        due.is("answer(0, 0), three of four packets", bus.answer(0, 0), -1);
        due.is("request(0, 4), three of four packets", bus.request(0, 4), 0);
        bus.tick(1);
        due.is("answer(0, 0)", bus.answer(0, 0), 132);
        due.is("request(0, 4)", bus.request(0, 4), 25);
        int[][] wrong = {{-1, 0}, {1, 0}, {40, 0}, {0, -1}, {0, 25}, {0, 32}, {Integer.MAX_VALUE, 0},
            {Integer.MIN_VALUE, 0}, {0, Integer.MAX_VALUE}, {0, Integer.MIN_VALUE}};
        for (int[] w : wrong) {
            due.is("answer(" + w[0] + ", " + w[1] + ")", bus.answer(w[0], w[1]), -1);
        }
    }

    private static void allBytesOfAnAnswer(Due due) {
        CountedBus bus = Benches.ready(1, 5);
        Benches.answered(due, bus, Benches.ask(bus, 32, 5, 0, 9, 8, 7, 6, 5, 4, 3, 2, 1), 133);
        for (int n = 1; n <= 9; n++) {
            int[] want = new int[n + 1];
            want[0] = 132;
            for (int k = 1; k <= n; k++) {
                want[k] = 10 - k;
            }
            Benches.answered(due, bus, Benches.ask(bus, 32, 4, 0, n), want);
        }
        Benches.answered(due, bus, Benches.ask(bus, 32, 77), 255);
    }

    private static void answersAreApart(Due due) {
        CountedBus bus = Benches.ready(0, 5, 6);
        bus.sensor(2, 1);
        bus.sensor(3, 2);
        Benches.ask(bus, 9, 1);
        Benches.ask(bus, 10, 1);
        Benches.ask(bus, 30, 1);
        bus.tick(10);
        due.is("answer(0, 3)", bus.answer(0, 3), 1);
        due.is("answer(1, 3)", bus.answer(1, 3), 2);
        due.is("answer(2, 0), nobody is there", bus.answer(2, 0), -1);
        bus.sensor(2, 3);
        Benches.ask(bus, 9, 1);
        bus.tick(10);
        due.is("answer(3, 3)", bus.answer(3, 3), 3);
        due.is("answer(0, 3), as it came", bus.answer(0, 3), 1);
    }
}

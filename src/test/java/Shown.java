import java.util.ArrayList;
import java.util.List;

/**
 * All that the face shows after a run of calls. There are more questions than one object may be
 * asked, so the run is played on as many new objects as it takes.
 */
final class Shown {
    static final List<Call> QUESTIONS = questions();

    private Shown() {
    }

    /** Each question reaches one beyond the bounds of what it asks, on each side. */
    private static List<Call> questions() {
        List<Call> made = new ArrayList<>();
        grid(made, "enumeration", -1, 2, -1, 3);
        grid(made, "node", -1, 7, -1, 8);
        grid(made, "sense", -1, 7, -1, 7);
        grid(made, "block", -1, 7, -1, 24);
        grid(made, "request", -1, 40, -1, 5);
        grid(made, "answer", -1, 40, -1, 32);
        grid(made, "event", -1, 16, -1, 3);
        grid(made, "wire", -1, 2, -2, 13);
        return made;
    }

    private static void grid(List<Call> made, String name, int a, int lastA, int b, int lastB) {
        for (int i = a; i <= lastA; i++) {
            for (int k = b; k <= lastB; k++) {
                made.add(new Call(name, i, k));
            }
        }
    }

    /** The answers to all questions, and behind them the clock of one tick more. */
    static int[] after(List<Call> run) {
        int[] answers = new int[QUESTIONS.size() + 1];
        CountedBus bus = played(run);
        for (int i = 0; i < QUESTIONS.size(); i++) {
            if (bus.callsLeft() == 0) {
                bus = played(run);
            }
            answers[i] = QUESTIONS.get(i).on(bus);
        }
        answers[QUESTIONS.size()] = played(run).tick(1);
        return answers;
    }

    static CountedBus played(List<Call> run) {
        CountedBus bus = new CountedBus();
        for (Call call : run) {
            call.on(bus);
        }
        return bus;
    }

    /** The same is shown; else the first question that is answered otherwise is told. */
    static void same(Due due, String what, int[] got, int[] want) {
        for (int i = 0; i < want.length; i++) {
            if (got[i] != want[i]) {
                String question = i < QUESTIONS.size() ? QUESTIONS.get(i).toString() : "tick(1)";
                due.is(what + ", then " + question, got[i], want[i]);
                return;
            }
        }
        due.yes(what, true);
    }
}

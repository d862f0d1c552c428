import java.util.ArrayList;
import java.util.List;

/**
 * All promises: runs of calls on the class and on a PlainBus side by side. Between the calls a
 * few questions are asked, and at a run's end all that the face shows is compared. The calls are
 * drawn by a counter of our own, so a run is the same each time.
 */
public final class ModelTest {
    private static final int RUNS = 3000;
    private static final int MOST_CHANGES = 170;
    /** With these behind each change a run has at most 512 calls. */
    private static final int QUESTIONS_EACH = 2;

    private final List<Call> changes = new ArrayList<>();
    private final int run;
    private long seed;

    private ModelTest(int run) {
        this.run = run;
        seed = run * 7919L + 17;
    }

    public static void main(String[] args) {
        Due due = new Due();
        for (int run = 0; run < RUNS; run++) {
            ModelTest test = new ModelTest(run);
            test.drawChanges();
            test.playBoth(due);
        }
        due.end();
    }

    private int draw(int bound) {
        seed = seed * 6364136223846793005L + 1442695040888963407L;
        return (int) ((seed >>> 33) % bound);
    }

    /** Most runs begin with buses that are ready; the others find their way by themselves. */
    private void drawChanges() {
        if (run % 4 != 0) {
            for (int d = 2; d <= 6; d++) {
                add("plug", d, draw(2), identity());
            }
            add("enumerate", 0);
            add("enumerate", 1);
            add("tick", 20);
        }
        int last = 20 + draw(MOST_CHANGES - 30);
        while (changes.size() < last) {
            drawChange();
        }
    }

    private void add(String name, int... args) {
        changes.add(new Call(name, args));
    }

    private int identity() {
        int[] some = {0, 5, 5, 255, 256, 999, 1000, 1001, 65535};
        return draw(3) == 0 ? draw(65536) : some[draw(some.length)];
    }

    private int endpoint() {
        int kind = draw(10);
        return kind < 5 ? 9 + draw(6) : kind < 9 ? 32 + draw(5) : draw(70);
    }

    private int value() {
        int[] some = {-32768, -1001, -1000, -999, -10, 0, 10, 999, 1000, 1001, 32767, 32768, -32769};
        return draw(3) == 0 ? draw(64) - 32 : some[draw(some.length)];
    }

    private void drawChange() {
        switch (draw(run % 3 == 0 ? 22 : 18)) {
            case 0: add("plug", draw(8), draw(3), identity()); break;
            case 1: add("unplug", draw(60)); break;
            case 2: add("enumerate", draw(12)); break;
            case 3: add("noise", draw(3), draw(14), draw(10) == 0 ? draw(300) : 1 << draw(8)); break;
            case 4: case 5: case 6: case 7: add("tick", 1 + draw(4)); break;
            case 8: add("tick", draw(4) == 0 ? draw(110) : draw(40)); break;
            case 9: case 10: add("sensor", draw(8), value()); break;
            case 11: add("sheet", draw(33), draw(257)); break;
            case 12: add("tick", 1); break;
            case 13: case 14: case 15: case 16: addCommand(); break;
            case 17: add("sensor", 1 + draw(6), draw(2) == 0 ? 2000 : -2000); break;
            case 18: add("unplug", 2 + draw(5)); break;
            case 19: add("plug", 2 + draw(5), draw(2), identity()); break;
            case 20: add("enumerate", draw(2)); break;
            default: add("noise", draw(2), draw(6), 1 + draw(255)); break;
        }
    }

    /** A command to a device, mostly as the document says it. */
    private void addCommand() {
        int first = draw(7);
        int[] lengths = {1, 1, 6, 2, 3, 3 + draw(24), 4};
        add("sheet", 0, first == 6 ? 64 : first);
        if (first == 2) {
            addBounds();
        } else {
            int[] receivers = {8, 8, 8, 9, 10, 11, 0, 32, 33, 255};
            add("sheet", 1, first == 3 ? receivers[draw(10)] : draw(27));
            add("sheet", 2, draw(27));
            add("sheet", 3 + draw(20), draw(256));
        }
        add("ask", endpoint(), draw(15) == 0 ? draw(34) : lengths[first]);
    }

    private void addBounds() {
        int low = draw(60) - 40;
        int high = draw(60) - 20;
        add("sheet", 1, low >> 8 & 255);
        add("sheet", 2, low & 255);
        add("sheet", 3, high >> 8 & 255);
        add("sheet", 4, high & 255);
        add("sheet", 5, draw(20));
    }

    private void playBoth(Due due) {
        CountedBus bus = new CountedBus();
        PlainBus plain = new PlainBus();
        for (int i = 0; i < changes.size(); i++) {
            Call change = changes.get(i);
            String before = "run " + run + ", call " + i + ": " + change;
            if (!isSame(due, before, change.on(bus), change.on(plain))) {
                return;
            }
            for (int q = 0; q < QUESTIONS_EACH; q++) {
                Call question = Shown.QUESTIONS.get(draw(Shown.QUESTIONS.size()));
                if (!isSame(due, before + ", then " + question, question.on(bus), question.on(plain))) {
                    return;
                }
            }
        }
        int[] want = new int[Shown.QUESTIONS.size() + 1];
        for (int i = 0; i < Shown.QUESTIONS.size(); i++) {
            want[i] = Shown.QUESTIONS.get(i).on(plain);
        }
        want[want.length - 1] = plain.tick(1);
        Shown.same(due, "run " + run + ", " + changes.size() + " calls", Shown.after(changes), want);
    }

    private static boolean isSame(Due due, String call, int got, int want) {
        due.is(call, got, want);
        return got == want;
    }
}

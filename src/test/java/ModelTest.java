/**
 * All promises: long runs of calls on a ManagedBus and on a PlainBus side by side, the whole
 * visible state compared after every call. The calls are drawn by a counter of our own, so a run
 * is the same each time.
 */
public final class ModelTest {
    private static final int RUNS = 300;
    private static final int CALLS = 500;

    private final Due due;
    private final int run;
    private final ManagedBus bus = new ManagedBus();
    private final PlainBus plain = new PlainBus();
    private long seed;
    private boolean same = true;

    private ModelTest(Due due, int run) {
        this.due = due;
        this.run = run;
        seed = run * 7919L + 17;
    }

    public static void main(String[] args) {
        Due due = new Due();
        for (int run = 0; run < RUNS; run++) {
            ModelTest test = new ModelTest(due, run);
            test.prepare();
            for (int i = 0; i < CALLS && test.same; i++) {
                test.call(i);
            }
        }
        due.end();
    }

    private int draw(int bound) {
        seed = seed * 6364136223846793005L + 1442695040888963407L;
        return (int) ((seed >>> 33) % bound);
    }

    /** Most runs begin with buses that are ready; the others find their way by themselves. */
    private void prepare() {
        if (run % 4 == 0) {
            return;
        }
        for (int d = 2; d <= 6; d++) {
            both("plug", d, draw(2), identity());
        }
        both("enumerate", 0, 0, 0);
        both("enumerate", 1, 0, 0);
        both("tick", 20, 0, 0);
    }

    private int identity() {
        int[] some = {0, 5, 5, 255, 256, 999, 1000, 1001, 65535};
        return draw(3) == 0 ? draw(65536) : some[draw(some.length)];
    }

    private int endpoint() {
        int kind = draw(10);
        return kind < 5 ? 9 + draw(6) : kind < 9 ? 32 + draw(5) : draw(70);
    }

    private int value() {
        int[] some = {-32768, -1001, -1000, -999, -10, 0, 10, 999, 1000, 1001, 32767, 32768, -32769};
        return draw(3) == 0 ? draw(64) - 32 : some[draw(some.length)];
    }

    private void call(int i) {
        switch (draw(run % 3 == 0 ? 22 : 18)) {
            case 0: both("plug", draw(8), draw(3), identity()); break;
            case 1: both("unplug", draw(60), 0, 0); break;
            case 2: both("enumerate", draw(12), 0, 0); break;
            case 3: both("noise", draw(3), draw(14), draw(10) == 0 ? draw(300) : 1 << draw(8)); break;
            case 4: case 5: case 6: case 7: both("tick", 1 + draw(4), 0, 0); break;
            case 8: both("tick", draw(110), 0, 0); break;
            case 9: case 10: both("sensor", draw(8), value(), 0); break;
            case 11: both("sheet", draw(33), draw(257), 0); break;
            case 12: both("tick", 1, 0, 0); break;
            case 13: case 14: case 15: case 16: command(); break;
            case 17: both("sensor", 1 + draw(6), draw(2) == 0 ? 2000 : -2000, 0); break;
            case 18: both("unplug", 2 + draw(5), 0, 0); break;
            case 19: both("plug", 2 + draw(5), draw(2), identity()); break;
            case 20: both("enumerate", draw(2), 0, 0); break;
            default: both("noise", draw(2), draw(6), 1 + draw(255)); break;
        }
    }

    /** A command to a device, mostly as the document says it. */
    private void command() {
        int first = draw(7);
        int[] lengths = {1, 1, 6, 2, 3, 3 + draw(24), 4};
        both("sheet", 0, first == 6 ? 64 : first, 0);
        if (first == 2) {
            bounds();
        } else {
            int[] receivers = {8, 8, 8, 9, 10, 11, 0, 32, 33, 255};
            both("sheet", 1, first == 3 ? receivers[draw(10)] : draw(27), 0);
            both("sheet", 2, draw(27), 0);
            both("sheet", 3 + draw(20), draw(256), 0);
        }
        both("ask", endpoint(), draw(15) == 0 ? draw(34) : lengths[first], 0);
    }

    private void bounds() {
        int low = draw(60) - 40;
        int high = draw(60) - 20;
        both("sheet", 1, low >> 8 & 255, 0);
        both("sheet", 2, low & 255, 0);
        both("sheet", 3, high >> 8 & 255, 0);
        both("sheet", 4, high & 255, 0);
        both("sheet", 5, draw(20), 0);
    }

    private void both(String name, int a, int b, int c) {
        if (!same) {
            return;
        }
        String call = "run " + run + ": " + name + "(" + a + ", " + b + ", " + c + ")";
        int got = onBus(name, a, b, c);
        int want = onPlain(name, a, b, c);
        due.is(call, got, want);
        same = got == want;
        compareState(call);
    }

    private static int number(boolean b) {
        return b ? 1 : 0;
    }

    private int onBus(String name, int a, int b, int c) {
        switch (name) {
            case "plug": return number(bus.plug(a, b, c));
            case "unplug": return number(bus.unplug(a));
            case "enumerate": return number(bus.enumerate(a));
            case "noise": return number(bus.noise(a, b, c));
            case "tick": return bus.tick(a);
            case "sheet": return number(bus.sheet(a, b));
            case "ask": return bus.ask(a, b);
            default: return number(bus.sensor(a, b));
        }
    }

    private int onPlain(String name, int a, int b, int c) {
        switch (name) {
            case "plug": return number(plain.plug(a, b, c));
            case "unplug": return number(plain.unplug(a));
            case "enumerate": return number(plain.enumerate(a));
            case "noise": return number(plain.noise(a, b, c));
            case "tick": return plain.tick(a);
            case "sheet": return number(plain.sheet(a, b));
            case "ask": return plain.ask(a, b);
            default: return number(plain.sensor(a, b));
        }
    }

    private void compare(String call, String read, int i, int k, int got, int want) {
        if (same && got != want) {
            same = false;
            due.is(call + ", then " + read + "(" + i + ", " + k + ")", got, want);
        }
    }

    private void compareState(String call) {
        for (int b = -1; b <= 2; b++) {
            for (int k = -2; k <= 14; k++) {
                compare(call, "wire", b, k, bus.wire(b, k), plain.wire(b, k));
                compare(call, "enumeration", b, k, bus.enumeration(b, k), plain.enumeration(b, k));
            }
        }
        for (int d = -1; d <= 7; d++) {
            for (int k = -1; k <= 24; k++) {
                compare(call, "node", d, k, bus.node(d, k), plain.node(d, k));
                compare(call, "sense", d, k, bus.sense(d, k), plain.sense(d, k));
                compare(call, "block", d, k, bus.block(d, k), plain.block(d, k));
            }
        }
        for (int r = -1; r <= 40; r++) {
            for (int k = -1; k <= 6; k++) {
                compare(call, "request", r, k, bus.request(r, k), plain.request(r, k));
            }
            for (int k = -1; k <= 32; k++) {
                compare(call, "answer", r, k, bus.answer(r, k), plain.answer(r, k));
            }
            for (int k = -1; k <= 3; k++) {
                compare(call, "event", r, k, bus.event(r, k), plain.event(r, k));
            }
        }
    }
}

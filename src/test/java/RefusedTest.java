import java.util.ArrayList;
import java.util.List;

/**
 * A call that is refused changes nothing. Each is made in the midst of a run; all that the face
 * shows at once and later must be what it shows in the same run without that call. Each bound is
 * looked at from the first value that is not allowed on each side, and far away.
 */
public final class RefusedTest {
    private static final int LEAST = Integer.MIN_VALUE;
    private static final int GREATEST = Integer.MAX_VALUE;
    private static final int[] NO_BUSES = {-1, 2, LEAST, GREATEST};
    private static final int[] NO_DEVICES = {-1, 0, 1, 7, LEAST, GREATEST};

    public static void main(String[] args) {
        Due due = new Due();
        changeNothing(due, "new", new Calls().list(), always(2, 3, 4, 5, 6));
        changeNothing(due, "plugged", plugged().list(), always(5, 6));
        changeNothing(due, "ready", ready().list(), always(5, 6));
        changeNothing(due, "busy", busy().list(), always(5, 6));
        changeNothing(due, "unplugged", ready().then("unplug", 4).list(), always(4, 5, 6));
        pluggedDevices(due);
        enumerationsThatGoOn(due);
        fortyRequests(due);
        questionsChangeNothing(due);
        due.end();
    }

    private static Calls plugged() {
        return new Calls().then("plug", 2, 0, 5).then("plug", 3, 0, 2000).then("plug", 4, 1, 7);
    }

    /** Devices 2 and 3 on bus 0 and 4 on bus 1, found, and each has heard and told something. */
    private static Calls ready() {
        return plugged().then("enumerate", 0).then("enumerate", 1).then("tick", 11)
            .asks(9, 3, 8).asks(32, 3, 8).asks(10, 5, 3, 77, 78).then("tick", 10)
            .then("sensor", 2, 1500).then("sensor", 4, -1500).then("tick", 6);
    }

    /** Packets wait everywhere, parts are not whole, there were tries, and noise is set. */
    private static Calls busy() {
        return ready().then("noise", 0, 0, 1)
            .asks(32, 5, 0, 1, 2, 3, 4, 5, 6, 7, 8, 9).asks(9, 5, 4, 4).asks(63, 1)
            .then("tick", 2).then("noise", 1, 1, 16).then("sensor", 2, 0).then("sensor", 4, 20)
            .then("tick", 1).then("sensor", 3, -2000).then("sensor", 2, -4000)
            .then("noise", 0, 4, 32).then("noise", 1, 2, 64);
    }

    /** What is refused in every state in which these devices are unplugged. */
    private static List<Call> always(int... unplugged) {
        Calls calls = new Calls();
        for (int d : NO_DEVICES) {
            calls.then("plug", d, 0, 5).then("plug", d, 1, 5).then("unplug", d);
        }
        for (int d : unplugged) {
            for (int bus : NO_BUSES) {
                calls.then("plug", d, bus, 5);
            }
            for (int identity : new int[] {-1, 65536, LEAST, GREATEST}) {
                calls.then("plug", d, 0, identity).then("plug", d, 1, identity);
            }
            calls.then("unplug", d).then("sensor", d, 2000).then("sensor", d, -2000);
        }
        for (int bus : NO_BUSES) {
            calls.then("enumerate", bus).then("noise", bus, 0, 1).then("noise", bus, 12, 255);
        }
        for (int bus = 0; bus < 2; bus++) {
            for (int k : new int[] {-1, 13, LEAST, GREATEST}) {
                calls.then("noise", bus, k, 1);
            }
            for (int mask : new int[] {0, 256, -1, 257, LEAST, GREATEST}) {
                calls.then("noise", bus, 0, mask).then("noise", bus, 12, mask);
            }
        }
        return calls.then(ofTheManager()).then(ofSensors()).list();
    }

    private static List<Call> ofTheManager() {
        Calls calls = new Calls();
        for (int n : new int[] {0, -1, 101, -100, LEAST, GREATEST}) {
            calls.then("tick", n);
        }
        for (int k : new int[] {-1, 32, LEAST, GREATEST}) {
            calls.then("sheet", k, 0).then("sheet", k, 255);
        }
        for (int v : new int[] {-1, 256, LEAST, GREATEST}) {
            calls.then("sheet", 0, v).then("sheet", 31, v);
        }
        for (int n : new int[] {0, 33, -1, LEAST, GREATEST}) {
            calls.then("ask", 9, n).then("ask", 63, n);
        }
        for (int endpoint : new int[] {8, 64, 0, -1, 7, LEAST, GREATEST}) {
            calls.then("ask", endpoint, 1).then("ask", endpoint, 32);
        }
        return calls.list();
    }

    private static List<Call> ofSensors() {
        Calls calls = new Calls();
        for (int d : new int[] {-1, 0, 7, LEAST, GREATEST}) {
            calls.then("sensor", d, 2000);
        }
        for (int v : new int[] {-32769, 32768, LEAST, GREATEST}) {
            for (int d = 1; d <= 6; d++) {
                calls.then("sensor", d, v);
            }
        }
        return calls.list();
    }

    private static void pluggedDevices(Due due) {
        Calls calls = new Calls();
        for (int d = 2; d <= 4; d++) {
            calls.then("plug", d, 0, 5).then("plug", d, 1, 7).then("plug", d, 1, 65535);
        }
        changeNothing(due, "plugged", plugged().list(), calls.list());
        changeNothing(due, "ready", ready().list(), calls.list());
        changeNothing(due, "busy", busy().list(), calls.list());
    }

    /** From before PREPARE to the last SET, also after a transaction that was not good. */
    private static void enumerationsThatGoOn(Due due) {
        List<Call> both = new Calls().then("enumerate", 0).then("enumerate", 1).list();
        for (int ticks = 0; ticks < 4; ticks++) {
            Calls begun = busy().then(both);
            Calls tried = ready().then(both);
            for (int i = 0; i < ticks; i++) {
                begun.then("tick", 1);
                tried.then("tick", 1);
            }
            tried.then("noise", 0, 0, 1).then("noise", 1, 0, 1).then("tick", 1);
            changeNothing(due, ticks + " ticks of an enumeration", begun.list(), both);
            if (ticks > 0) {
                changeNothing(due, "a bad one after " + ticks, tried.list(), both);
            }
        }
        Calls nearlyOver = ready().then("enumerate", 0).then("tick", 9);
        changeNothing(due, "before the last SET", nearlyOver.list(), new Calls().then("enumerate", 0).list());
    }

    private static void fortyRequests(Due due) {
        Calls asked = ready();
        Calls waiting = plugged();
        for (int r = 0; r < 40; r++) {
            waiting.then("ask", 9 + r, 1);
        }
        for (int r = 3; r < 40; r++) {
            asked.then("ask", 9, 1).then("tick", 2);
        }
        List<Call> more = new Calls().then("ask", 9, 1).then("ask", 63, 32).then("ask", 9, 33)
            .then("ask", 8, 1).list();
        changeNothing(due, "40 were answered", asked.list(), more);
        changeNothing(due, "40 wait", waiting.list(), more);
    }

    /** What is shown at once, and what the buses, the sheet and the requests show later. */
    private static List<List<Call>> laters() {
        List<List<Call>> laters = new ArrayList<>();
        laters.add(new Calls().list());
        laters.add(new Calls().then("tick", 1).list());
        laters.add(new Calls().then("tick", 3).list());
        for (int ticks = 1; ticks <= 4; ticks++) {
            laters.add(new Calls().then("tick", 40).then("ask", 9, 32).then("tick", ticks).list());
        }
        laters.add(new Calls().then("plug", 6, 1, 300).then("enumerate", 0).then("enumerate", 1)
            .then("tick", 2).then("ask", 33, 32).then("tick", 60).list());
        return laters;
    }

    private static List<Call> joined(List<Call> one, List<Call> other) {
        return new Calls().then(one).then(other).list();
    }

    private static void changeNothing(Due due, String state, List<Call> before, List<Call> refused) {
        List<List<Call>> laters = laters();
        for (List<Call> later : laters) {
            int[] want = Shown.after(joined(before, later));
            for (Call call : refused) {
                List<Call> with = new Calls().then(before).then(List.of(call)).then(later).list();
                Shown.same(due, state + ": " + call + " " + later, Shown.after(with), want);
            }
        }
        for (Call call : refused) {
            boolean saysNone = call.name().equals("tick") || call.name().equals("ask");
            due.is(state + ": " + call, call.on(Shown.played(before)), saysNone ? -1 : 0);
        }
    }

    private static void questionsChangeNothing(Due due) {
        List<Call> before = busy().list();
        List<List<Call>> laters = laters();
        int[] wantAtOnce = Shown.after(before);
        int[] wantLater = Shown.after(joined(before, laters.get(4)));
        for (int from = 0; from < Shown.QUESTIONS.size(); from += 200) {
            int to = Math.min(from + 200, Shown.QUESTIONS.size());
            List<Call> asked = joined(before, Shown.QUESTIONS.subList(from, to));
            Shown.same(due, "questions from " + from, Shown.after(asked), wantAtOnce);
            int[] gotLater = Shown.after(joined(asked, laters.get(4)));
            Shown.same(due, "questions from " + from + ", later", gotLater, wantLater);
        }
    }
}

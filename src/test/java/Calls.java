import java.util.ArrayList;
import java.util.List;

/** A run of calls that is written down before it is played. */
final class Calls {
    private final List<Call> list = new ArrayList<>();

    Calls then(String name, int... args) {
        list.add(new Call(name, args));
        return this;
    }

    Calls then(List<Call> more) {
        list.addAll(more);
        return this;
    }

    /** The first bytes of the sheet, and the request that sends them. */
    Calls asks(int endpoint, int... bytes) {
        for (int k = 0; k < bytes.length; k++) {
            then("sheet", k, bytes[k]);
        }
        return then("ask", endpoint, bytes.length);
    }

    List<Call> list() {
        return list;
    }
}

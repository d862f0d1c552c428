import java.util.ArrayList;
import java.util.HashMap;
import java.util.List;
import java.util.Map;

/**
 * The document once more, in its plainest form and built in another way than ManagedBus: packets
 * are rows, parts are lists, nothing is used again. ModelTest lets both run side by side.
 */
final class PlainBus implements Face {
    private static final class Port {
        int node;
        int bus;
        boolean owner;
        int identity;
        int address;
        boolean resolved;
        int tries;
        /** Each is target, source, flags, bytes. */
        List<int[]> output = new ArrayList<>();
    }

    private static final class Part {
        int kind;
        int due;
        List<Integer> bytes = new ArrayList<>();
    }

    private static final class Sensor {
        int value;
        int low = -1000;
        int high = 1000;
        int slack;
        int state;
        int receiver;
        int events;
        int[] block = new int[24];
    }

    private static final class Request {
        int endpoint;
        int[] bytes;
        int state = 1;
        int timer = 30;
        int count = 1;
        List<Integer> answer = new ArrayList<>();
    }

    private int clock;
    private final List<Port> ports = new ArrayList<>();
    private final int[] endpoints = {8, 0, 0, 0, 0, 0, 0};
    private final List<Map<Integer, Part>> parts = new ArrayList<>();
    private final Sensor[] sensors = new Sensor[7];
    private final int[][] noise = new int[2][];
    private final int[][] wires = {{}, {}};
    private final int[] state = new int[2];
    private final String[] stage = {"", ""};
    private final int[] tries = new int[2];
    private final int[] heard = new int[2];
    private final int[] set = new int[2];
    private final List<List<Integer>> assigned = List.of(new ArrayList<>(), new ArrayList<>());
    private int toBridge;
    private final int[] sheet = new int[32];
    private final List<Request> requests = new ArrayList<>();
    private final List<int[]> log = new ArrayList<>();

    PlainBus() {
        for (int d = 0; d < 7; d++) {
            parts.add(new HashMap<>());
        }
        add(0, 0, true, 0);
        add(1, 0, false, 1000);
        add(1, 1, true, 0);
        sensors[1] = new Sensor();
    }

    private void add(int node, int bus, boolean owner, int identity) {
        Port port = new Port();
        port.node = node;
        port.bus = bus;
        port.owner = owner;
        port.identity = identity;
        port.address = owner ? 8 : 0;
        port.resolved = owner;
        ports.add(port);
    }

    private Port port(int node, int bus) {
        for (Port port : ports) {
            if (port.node == node && (bus < 0 || port.bus == bus)) {
                return port;
            }
        }
        return null;
    }

    private static boolean within(int x, int low, int high) {
        return low <= x && x <= high;
    }

    @Override
    public boolean plug(int d, int bus, int identity) {
        if (!within(d, 2, 6) || port(d, -1) != null || !within(bus, 0, 1) || !within(identity, 0, 65535)) {
            return false;
        }
        add(d, bus, false, identity);
        endpoints[d] = 0;
        parts.get(d).clear();
        sensors[d] = new Sensor();
        return true;
    }

    @Override
    public boolean unplug(int d) {
        if (!within(d, 2, 6) || port(d, -1) == null) {
            return false;
        }
        ports.remove(port(d, -1));
        sensors[d] = null;
        return true;
    }

    @Override
    public boolean enumerate(int bus) {
        if (!within(bus, 0, 1) || state[bus] == 1) {
            return false;
        }
        state[bus] = 1;
        stage[bus] = "PREPARE";
        tries[bus] = 0;
        return true;
    }

    @Override
    public boolean noise(int bus, int k, int mask) {
        if (!within(bus, 0, 1) || !within(k, 0, 12) || !within(mask, 1, 255)) {
            return false;
        }
        noise[bus] = new int[] {k, mask};
        return true;
    }

    @Override
    public int tick(int n) {
        if (!within(n, 1, 100)) {
            return -1;
        }
        for (int i = 0; i < n; i++) {
            clock++;
            for (int bus = 0; bus < 2; bus++) {
                if (state[bus] == 1) {
                    enumerationStep(bus);
                } else {
                    packetStep(bus);
                }
            }
            for (Request request : requests) {
                look(request);
            }
        }
        return clock;
    }

    private static int check(int[] row, int count) {
        int r = 0;
        for (int i = 0; i < count; i++) {
            r = r ^ row[i];
            for (int t = 0; t < 8; t++) {
                r = 2 * r > 255 ? (2 * r) ^ 263 : 2 * r;
            }
        }
        return r;
    }

    private static int[] checked(int... bytes) {
        int[] row = new int[bytes.length + 1];
        System.arraycopy(bytes, 0, row, 0, bytes.length);
        row[bytes.length] = check(row, bytes.length);
        return row;
    }

    private boolean transaction(int bus, int[] row) {
        if (noise[bus] != null && noise[bus][0] < row.length) {
            row[noise[bus][0]] ^= noise[bus][1];
        }
        noise[bus] = null;
        wires[bus] = row;
        return row[row.length - 1] == check(row, row.length - 1);
    }

    private List<Port> foundOn(int bus) {
        List<Port> found = new ArrayList<>();
        for (Port port : ports) {
            if (port.bus == bus && !port.owner) {
                found.add(port);
            }
        }
        return found;
    }

    private void stage(int bus, String next) {
        stage[bus] = next;
        tries[bus] = 0;
    }

    private void over(int bus, int how) {
        state[bus] = how;
        tries[bus] = 0;
        if (bus == 0 && how == 2) {
            int last = assigned.get(0).lastIndexOf(1000);
            toBridge = last < 0 ? 0 : 16 + last;
        }
    }

    private void enumerationStep(int bus) {
        List<Integer> given = assigned.get(bus);
        if (stage[bus].equals("PREPARE")) {
            for (Port port : foundOn(bus)) {
                port.resolved = false;
            }
            given.clear();
            stage(bus, "ASK");
            return;
        }
        if (stage[bus].equals("ASK")) {
            int least = 65536;
            for (Port port : foundOn(bus)) {
                if (!port.resolved) {
                    least = Math.min(least, port.identity);
                }
            }
            if (least < 65536 && given.size() == 16) {
                over(bus, 3);
                return;
            }
            if (least < 65536) {
                if (transaction(bus, checked(least >> 8, least & 255))) {
                    heard[bus] = least;
                    stage(bus, "GIVE");
                } else {
                    again(bus);
                }
                return;
            }
            if (given.isEmpty()) {
                over(bus, 2);
                return;
            }
            stage(bus, "SET");
            set[bus] = 0;
        }
        if (stage[bus].equals("GIVE")) {
            giveStep(bus, given);
        } else {
            setStep(bus, given);
        }
    }

    private void giveStep(int bus, List<Integer> given) {
        int address = 16 + given.size();
        if (!transaction(bus, checked(heard[bus] >> 8, heard[bus] & 255, address))) {
            again(bus);
            return;
        }
        for (Port port : foundOn(bus)) {
            if (!port.resolved && port.identity == heard[bus]) {
                port.address = address;
                port.resolved = true;
            }
        }
        given.add(heard[bus]);
        stage(bus, "ASK");
    }

    private void setStep(int bus, List<Integer> given) {
        int i = set[bus];
        int endpoint = (bus == 0 ? 9 : 32) + i;
        if (!transaction(bus, checked(16 + i, endpoint))) {
            again(bus);
            return;
        }
        for (Port port : foundOn(bus)) {
            if (port.address == 16 + i) {
                endpoints[port.node] = endpoint;
            }
        }
        stage(bus, "SET");
        set[bus]++;
        if (set[bus] == given.size()) {
            over(bus, 2);
        }
    }

    private void again(int bus) {
        tries[bus]++;
        if (tries[bus] == 3) {
            over(bus, 3);
        }
    }

    private int goal(Port port) {
        int target = port.output.get(0)[0];
        if (!port.owner) {
            return 8;
        }
        if (port.bus == 1) {
            return target - 16;
        }
        return target >= 32 ? toBridge : target + 7;
    }

    private static boolean less(int[] a, int[] b) {
        for (int i = 0; i < a.length && i < b.length; i++) {
            if (a[i] != b[i]) {
                return a[i] < b[i];
            }
        }
        return a.length < b.length;
    }

    private void packetStep(int bus) {
        Port sender = null;
        int[] row = null;
        for (int node = 0; node < 7; node++) {
            Port port = port(node, bus);
            if (port == null || port.output.isEmpty() || port.address == 0 || goal(port) == 0) {
                continue;
            }
            int[] packet = port.output.get(0);
            int[] bytes = new int[packet.length + 1];
            bytes[0] = goal(port);
            System.arraycopy(packet, 0, bytes, 1, packet.length);
            int[] own = checked(bytes);
            if (row == null || less(own, row)) {
                row = own;
                sender = port;
            }
        }
        if (sender == null) {
            return;
        }
        boolean good = transaction(bus, row);
        List<Port> takers = new ArrayList<>();
        for (Port port : ports) {
            if (good && port.bus == bus && port != sender && port.address == row[0]) {
                takers.add(port);
            }
        }
        if (takers.isEmpty()) {
            sender.tries++;
            if (sender.tries < 3) {
                return;
            }
        }
        int[] packet = sender.output.remove(0);
        sender.tries = 0;
        for (Port taker : takers) {
            take(taker, packet);
        }
    }

    private void take(Port port, int[] packet) {
        int target = packet[0];
        if (target == endpoints[port.node]) {
            putTogether(port.node, packet);
        } else if (port.node == 1 && (port.bus == 0 ? target >= 32 : target < 32)) {
            Port other = port(1, 1 - port.bus);
            if (other.output.size() < 8) {
                other.output.add(packet);
            }
        }
    }

    private void putTogether(int node, int[] packet) {
        int source = packet[1];
        int flags = packet[2];
        if (source > 63) {
            return;
        }
        Map<Integer, Part> here = parts.get(node);
        if ((flags & 128) != 0) {
            Part fresh = new Part();
            fresh.kind = flags & 15;
            fresh.due = flags >> 4 & 3;
            here.put(source, fresh);
        }
        Part part = here.get(source);
        if (part == null || part.kind != (flags & 15) || part.due != (flags >> 4 & 3)) {
            here.remove(source);
            return;
        }
        for (int i = 3; i < packet.length; i++) {
            part.bytes.add(packet[i]);
        }
        part.due = (part.due + 1) % 4;
        if (part.bytes.size() > 32) {
            here.remove(source);
        } else if ((flags & 64) != 0) {
            here.remove(source);
            come(node, source, part);
        }
    }

    private void come(int node, int source, Part message) {
        boolean asks = message.kind >= 8;
        List<Integer> bytes = message.bytes;
        if (node != 0) {
            if (asks) {
                send(node, source, message.kind - 8, obey(node, bytes));
            }
        } else if (asks && bytes.size() == 4 && bytes.get(0) == 64) {
            log.add(0, new int[] {source, bytes.get(1), signed(bytes.get(2), bytes.get(3))});
            if (log.size() > 16) {
                log.remove(16);
            }
        } else if (!asks) {
            for (int r = 0; r < requests.size(); r++) {
                Request request = requests.get(r);
                if (request.state == 1 && request.endpoint == source && r % 8 == message.kind) {
                    request.state = 2;
                    request.answer = bytes;
                    return;
                }
            }
        }
    }

    private static int signed(int high, int low) {
        int value = 256 * high + low;
        return value > 32767 ? value - 65536 : value;
    }

    private int[] obey(int node, List<Integer> bytes) {
        Sensor sensor = sensors[node];
        int n = bytes.size();
        int command = bytes.get(0);
        if (command == 1 && n == 1) {
            return report(129, sensor);
        }
        if (command == 2 && n == 6) {
            sensor.low = signed(bytes.get(1), bytes.get(2));
            sensor.high = signed(bytes.get(3), bytes.get(4));
            sensor.slack = bytes.get(5);
            feel(node);
            return new int[] {130};
        }
        if (command == 3 && n == 2) {
            sensor.receiver = bytes.get(1);
            return new int[] {131};
        }
        if (command == 4 && n == 3 && within(bytes.get(2), 1, 24) && bytes.get(1) + bytes.get(2) <= 24) {
            int[] answer = new int[1 + bytes.get(2)];
            answer[0] = 132;
            System.arraycopy(sensor.block, bytes.get(1), answer, 1, bytes.get(2));
            return answer;
        }
        if (command == 5 && within(n - 2, 1, 24) && bytes.get(1) + n - 2 <= 24) {
            for (int i = 2; i < n; i++) {
                sensor.block[bytes.get(1) + i - 2] = bytes.get(i);
            }
            return new int[] {133};
        }
        return new int[] {255};
    }

    private static int[] report(int first, Sensor sensor) {
        return new int[] {first, sensor.state, sensor.value >> 8 & 255, sensor.value & 255};
    }

    private void feel(int node) {
        Sensor s = sensors[node];
        int old = s.state;
        if (s.value > s.high || old == 2 && s.value >= s.high - s.slack) {
            s.state = 2;
        } else if (s.value < s.low || old == 1 && s.value <= s.low + s.slack) {
            s.state = 1;
        } else {
            s.state = 0;
        }
        if (s.state != old && s.receiver != 0) {
            send(node, s.receiver, 8 + s.events % 8, report(64, s));
            s.events++;
        }
    }

    private void send(int node, int target, int kind, int[] bytes) {
        List<int[]> cut = new ArrayList<>();
        for (int at = 0; at < bytes.length; at += 8) {
            int count = Math.min(8, bytes.length - at);
            int flags = (at == 0 ? 128 : 0) + (at + 8 >= bytes.length ? 64 : 0) + at / 8 * 16 + kind;
            int[] packet = new int[3 + count];
            packet[0] = target;
            packet[1] = endpoints[node];
            packet[2] = flags;
            System.arraycopy(bytes, at, packet, 3, count);
            cut.add(packet);
        }
        List<int[]> output = port(node, -1).output;
        if (output.size() + cut.size() <= 8) {
            output.addAll(cut);
        }
    }

    private void look(Request request) {
        if (request.state != 1) {
            return;
        }
        request.timer--;
        if (request.timer == 0 && request.count == 3) {
            request.state = 3;
        } else if (request.timer == 0) {
            request.count++;
            request.timer = 30;
            send(0, request.endpoint, 8 + requests.indexOf(request) % 8, request.bytes);
        }
    }

    @Override
    public boolean sheet(int k, int v) {
        if (!within(k, 0, 31) || !within(v, 0, 255)) {
            return false;
        }
        sheet[k] = v;
        return true;
    }

    @Override
    public int ask(int endpoint, int n) {
        if (!within(n, 1, 32) || !within(endpoint, 9, 63) || requests.size() == 40) {
            return -1;
        }
        Request request = new Request();
        request.endpoint = endpoint;
        request.bytes = java.util.Arrays.copyOf(sheet, n);
        requests.add(request);
        int number = requests.size() - 1;
        send(0, endpoint, 8 + number % 8, request.bytes);
        return number;
    }

    @Override
    public boolean sensor(int d, int v) {
        if (!within(d, 1, 6) || port(d, -1) == null || !within(v, -32768, 32767)) {
            return false;
        }
        sensors[d].value = v;
        feel(d);
        return true;
    }

    @Override
    public int enumeration(int bus, int what) {
        if (!within(bus, 0, 1) || !within(what, 0, 2)) {
            return -1;
        }
        return new int[] {state[bus], assigned.get(bus).size(), tries[bus]}[what];
    }

    @Override
    public int node(int d, int what) {
        Port port = within(d, 0, 6) ? port(d, -1) : null;
        if (port == null || !within(what, 0, 7)) {
            return -1;
        }
        int far = d == 1 ? port(1, 1).output.size() : 0;
        return new int[] {port.bus, port.identity, port.address, port.resolved ? 1 : 0, endpoints[d],
            port.output.size(), far, port.tries}[what];
    }

    @Override
    public int sense(int d, int what) {
        if (!within(d, 1, 6) || port(d, -1) == null || !within(what, 0, 6)) {
            return 0;
        }
        Sensor s = sensors[d];
        return new int[] {s.value, s.state, s.low, s.high, s.slack, s.receiver, s.events}[what];
    }

    @Override
    public int block(int d, int k) {
        if (!within(d, 1, 6) || port(d, -1) == null || !within(k, 0, 23)) {
            return -1;
        }
        return sensors[d].block[k];
    }

    @Override
    public int request(int r, int what) {
        if (!within(r, 0, requests.size() - 1) || !within(what, 0, 4)) {
            return -1;
        }
        Request q = requests.get(r);
        return new int[] {q.state, q.endpoint, q.timer, q.count, q.answer.size()}[what];
    }

    @Override
    public int answer(int r, int k) {
        if (!within(r, 0, requests.size() - 1) || !within(k, 0, requests.get(r).answer.size() - 1)) {
            return -1;
        }
        return requests.get(r).answer.get(k);
    }

    @Override
    public int event(int k, int what) {
        return within(k, 0, log.size() - 1) && within(what, 0, 2) ? log.get(k)[what] : -40000;
    }

    @Override
    public int wire(int bus, int k) {
        if (!within(bus, 0, 1)) {
            return -1;
        }
        if (k == -1) {
            return wires[bus].length;
        }
        return within(k, 0, wires[bus].length - 1) ? wires[bus][k] : -1;
    }
}

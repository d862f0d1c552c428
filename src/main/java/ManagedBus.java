import java.util.Arrays;

/**
 * Two management buses with a manager, a bridge and five devices. The numbered promises of the
 * document say what each call does; everything here is made once and used again, since a run of
 * ticks is long.
 */
public final class ManagedBus {
    public static final int NONE = -1;

    private static final int NO_EVENT = -40000;
    private static final int NODES = 7;
    private static final int MANAGER = 0;
    private static final int BRIDGE = 1;
    private static final int FIRST_DEVICE = 2;
    private static final int BUSES = 2;

    private static final int OWNER_ADDRESS = 8;
    private static final int FIRST_ADDRESS = 16;
    private static final int MANAGER_ENDPOINT = 8;
    private static final int FIRST_NEAR_ENDPOINT = 9;
    private static final int FIRST_FAR_ENDPOINT = 32;
    private static final int ENDPOINTS = 64;
    private static final int BRIDGE_IDENTITY = 1000;
    private static final int MAX_IDENTITY = 65535;
    private static final int MAX_ASSIGNED = 16;
    private static final int MAX_TRIES = 3;

    private static final int PACKET_BYTES = 8;
    private static final int MESSAGE_BYTES = 32;
    private static final int ROW_BYTES = 13;
    private static final int OUTPUT_PACKETS = 8;
    private static final int BLOCK_BYTES = 24;
    private static final int MAX_REQUESTS = 40;
    private static final int LOG_EVENTS = 16;
    private static final int MAX_TICKS = 100;

    private static final int FLAG_FIRST = 128;
    private static final int FLAG_LAST = 64;
    private static final int NUMBER_STEP = 16;
    private static final int NUMBERS = 4;
    private static final int NO_ANSWER = 8;
    private static final int TAGS = 8;

    private static final int EVENT_BYTE = 64;
    private static final int EVENT_LENGTH = 4;
    private static final int MIN_VALUE = -32768;
    private static final int MAX_VALUE = 32767;

    private final Bus[] buses = new Bus[BUSES];
    private final Node[] nodes = new Node[NODES];
    /** The same nodes as in the row above, but for the manager, which has no sensor. */
    private final SensingNode[] sensingNodes = new SensingNode[NODES];
    private final Manager manager = new Manager();
    private final Bridge bridge = new Bridge();
    private int clock;

    public ManagedBus() {
        for (int i = 0; i < BUSES; i++) {
            buses[i] = new Bus(i);
        }
        nodes[MANAGER] = manager;
        nodes[BRIDGE] = bridge;
        sensingNodes[BRIDGE] = bridge;
        for (int d = FIRST_DEVICE; d < NODES; d++) {
            SensingNode device = new SensingNode(NONE);
            nodes[d] = device;
            sensingNodes[d] = device;
        }
        buses[0].ports[MANAGER] = manager.port;
        buses[0].ports[BRIDGE] = bridge.port;
        buses[1].ports[BRIDGE] = bridge.farPort;
    }

    public boolean plug(int d, int bus, int identity) {
        if (!isDevice(d) || nodes[d].bus != NONE || !isBus(bus)) {
            return false;
        }
        if (identity < 0 || identity > MAX_IDENTITY) {
            return false;
        }
        SensingNode device = sensingNodes[d];
        device.startAfresh(bus, identity);
        buses[bus].ports[d] = device.port;
        return true;
    }

    public boolean unplug(int d) {
        if (!isDevice(d) || nodes[d].bus == NONE) {
            return false;
        }
        buses[nodes[d].bus].ports[d] = null;
        nodes[d].bus = NONE;
        return true;
    }

    public boolean enumerate(int bus) {
        if (!isBus(bus) || buses[bus].enumeration.goesOn()) {
            return false;
        }
        buses[bus].enumeration.begin();
        return true;
    }

    public boolean noise(int bus, int k, int mask) {
        if (!isBus(bus) || k < 0 || k >= ROW_BYTES || mask < 1 || mask > 255) {
            return false;
        }
        buses[bus].noisePlace = k;
        buses[bus].noiseMask = mask;
        return true;
    }

    public int tick(int n) {
        if (n < 1 || n > MAX_TICKS) {
            return NONE;
        }
        for (int i = 0; i < n; i++) {
            clock++;
            runBus(buses[0]);
            runBus(buses[1]);
            manager.lookAtRequests();
        }
        return clock;
    }

    public boolean sheet(int k, int v) {
        if (k < 0 || k >= MESSAGE_BYTES || v < 0 || v > 255) {
            return false;
        }
        manager.sheetBytes[k] = v;
        return true;
    }

    public int ask(int endpoint, int n) {
        if (n < 1 || n > MESSAGE_BYTES) {
            return NONE;
        }
        if (endpoint < FIRST_NEAR_ENDPOINT || endpoint >= ENDPOINTS) {
            return NONE;
        }
        return manager.openRequest(endpoint, n);
    }

    public boolean sensor(int d, int v) {
        SensingNode node = sensingNodeAt(d);
        if (node == null || v < MIN_VALUE || v > MAX_VALUE) {
            return false;
        }
        node.value = v;
        node.senseNow();
        return true;
    }

    public int enumeration(int bus, int what) {
        if (!isBus(bus)) {
            return NONE;
        }
        Enumeration enumeration = buses[bus].enumeration;
        switch (what) {
            case 0: return enumeration.state;
            case 1: return enumeration.assigned;
            case 2: return enumeration.tries;
            default: return NONE;
        }
    }

    public int node(int d, int what) {
        if (d < 0 || d >= NODES || nodes[d].bus == NONE) {
            return NONE;
        }
        Port port = nodes[d].port;
        switch (what) {
            case 0: return nodes[d].bus;
            case 1: return port.identity;
            case 2: return port.address;
            case 3: return port.resolved ? 1 : 0;
            case 4: return port.endpoint;
            case 5: return port.waiting;
            case 6: return d == BRIDGE ? bridge.farPort.waiting : 0;
            case 7: return port.tries;
            default: return NONE;
        }
    }

    public int sense(int d, int what) {
        SensingNode node = sensingNodeAt(d);
        if (node == null) {
            return 0;
        }
        switch (what) {
            case 0: return node.value;
            case 1: return node.state;
            case 2: return node.low;
            case 3: return node.high;
            case 4: return node.slack;
            case 5: return node.receiver;
            case 6: return node.eventCount;
            default: return 0;
        }
    }

    public int block(int d, int k) {
        SensingNode node = sensingNodeAt(d);
        if (node == null || k < 0 || k >= BLOCK_BYTES) {
            return NONE;
        }
        return node.blockBytes[k];
    }

    public int request(int r, int what) {
        Request request = manager.requestAt(r);
        if (request == null) {
            return NONE;
        }
        switch (what) {
            case 0: return request.state;
            case 1: return request.endpoint;
            case 2: return request.timer;
            case 3: return request.sendings;
            case 4: return request.answerLength;
            default: return NONE;
        }
    }

    public int answer(int r, int k) {
        Request request = manager.requestAt(r);
        if (request == null || k < 0 || k >= request.answerLength) {
            return NONE;
        }
        return request.answerBytes[k];
    }

    public int event(int k, int what) {
        if (k < 0 || k >= manager.events) {
            return NO_EVENT;
        }
        int place = manager.placeOfEvent(k);
        switch (what) {
            case 0: return manager.eventSources[place];
            case 1: return manager.eventStates[place];
            case 2: return manager.eventValues[place];
            default: return NO_EVENT;
        }
    }

    public int wire(int bus, int k) {
        if (!isBus(bus)) {
            return NONE;
        }
        Row row = buses[bus].wire;
        if (k == NONE) {
            return row.length;
        }
        return k >= 0 && k < row.length ? row.bytes[k] : NONE;
    }

    private static boolean isBus(int bus) {
        return bus >= 0 && bus < BUSES;
    }

    private static boolean isDevice(int d) {
        return d >= FIRST_DEVICE && d < NODES;
    }

    /** The bridge or a plugged device; null for all else. */
    private SensingNode sensingNodeAt(int d) {
        if (d != BRIDGE && !isDevice(d)) {
            return null;
        }
        return sensingNodes[d].bus == NONE ? null : sensingNodes[d];
    }

    private void runBus(Bus bus) {
        if (bus.enumeration.goesOn()) {
            bus.enumeration.step(bus);
            return;
        }
        Port sender = bus.findSender();
        if (sender == null) {
            return;
        }
        if (bus.transmit() && deliver(bus, sender)) {
            sender.dropFirst();
        } else {
            sender.fail();
        }
    }

    /** Answers whether any port took the packet. */
    private boolean deliver(Bus bus, Port sender) {
        Packet packet = sender.first();
        int address = bus.wire.bytes[0];
        boolean taken = false;
        for (int d = 0; d < NODES; d++) {
            Port port = bus.ports[d];
            if (port != null && port != sender && port.address == address) {
                taken = true;
                Part message = nodes[d].take(packet, bus.number);
                if (message != null) {
                    nodes[d].receive(message);
                }
            }
        }
        return taken;
    }

    private static int signed(int high, int low) {
        return (short) (high * 256 + low);
    }

    /** The bytes of one transaction. */
    private static final class Row {
        final int[] bytes = new int[ROW_BYTES];
        int length;

        void start() {
            length = 0;
        }

        void add(int value) {
            if (length < ROW_BYTES) {
                bytes[length] = value;
                length++;
            }
        }

        void addCheck() {
            add(checkOf(length));
        }

        boolean isGood() {
            return length > 0 && bytes[length - 1] == checkOf(length - 1);
        }

        boolean isLessThan(Row other) {
            int shared = Math.min(length, other.length);
            for (int i = 0; i < shared; i++) {
                if (bytes[i] != other.bytes[i]) {
                    return bytes[i] < other.bytes[i];
                }
            }
            return length < other.length;
        }

        void copyFrom(Row other) {
            length = other.length;
            System.arraycopy(other.bytes, 0, bytes, 0, length);
        }

        private int checkOf(int count) {
            int rest = 0;
            for (int i = 0; i < count; i++) {
                rest ^= bytes[i];
                for (int bit = 0; bit < 8; bit++) {
                    rest *= 2;
                    if (rest > 255) {
                        rest ^= 263;
                    }
                }
            }
            return rest;
        }
    }

    private static final class Packet {
        int target;
        int source;
        int flags;
        int length;
        final int[] bytes = new int[PACKET_BYTES];

        void address(int target, int source, int flags) {
            this.target = target;
            this.source = source;
            this.flags = flags;
        }

        void fill(int[] from, int start, int count) {
            length = count;
            System.arraycopy(from, start, bytes, 0, count);
        }

        boolean isFirst() {
            return (flags & FLAG_FIRST) != 0;
        }

        boolean isLast() {
            return (flags & FLAG_LAST) != 0;
        }

        int number() {
            return flags / NUMBER_STEP % NUMBERS;
        }

        /** The tag and whether it is no answer: what all packets of a message share. */
        int kind() {
            return flags % NUMBER_STEP;
        }
    }

    /** A node's place on a bus, with the packets that wait there. */
    private static final class Port {
        final boolean owner;
        int identity;
        int address;
        boolean resolved;
        /** The node's endpoint: it stands here because a node hears it on this port alone. */
        int endpoint;
        int tries;
        int waiting;
        private final Packet[] slots = new Packet[OUTPUT_PACKETS];
        private int head;

        Port(boolean owner) {
            this.owner = owner;
            address = owner ? OWNER_ADDRESS : 0;
            resolved = owner;
            for (int i = 0; i < OUTPUT_PACKETS; i++) {
                slots[i] = new Packet();
            }
        }

        void startAfresh(int newIdentity) {
            identity = newIdentity;
            address = 0;
            resolved = false;
            endpoint = 0;
            tries = 0;
            waiting = 0;
        }

        boolean hasRoomFor(int packets) {
            return waiting + packets <= OUTPUT_PACKETS;
        }

        Packet first() {
            return slots[head];
        }

        /** The caller has looked for room, and fills the packet. */
        Packet append() {
            Packet packet = slots[(head + waiting) % OUTPUT_PACKETS];
            waiting++;
            return packet;
        }

        void dropFirst() {
            head = (head + 1) % OUTPUT_PACKETS;
            waiting--;
            tries = 0;
        }

        void fail() {
            tries++;
            if (tries == MAX_TRIES) {
                dropFirst();
            }
        }
    }

    private static final class Bus {
        final int number;
        /** By node; null where a node has no port here. */
        final Port[] ports = new Port[NODES];
        final Enumeration enumeration = new Enumeration();
        final Row wire = new Row();
        int noisePlace = NONE;
        int noiseMask;
        private final Row candidate = new Row();

        Bus(int number) {
            this.number = number;
        }

        /** Puts noise on the row that stands on the wire; answers whether it is good then. */
        boolean transmit() {
            if (noisePlace >= 0 && noisePlace < wire.length) {
                wire.bytes[noisePlace] ^= noiseMask;
            }
            noisePlace = NONE;
            return wire.isGood();
        }

        /** The port whose row is left, which stands on the wire then; null if none begins. */
        Port findSender() {
            Port sender = null;
            for (int d = 0; d < NODES; d++) {
                Port port = ports[d];
                if (port == null || !mayBegin(port)) {
                    continue;
                }
                writeRow(port);
                if (sender == null || candidate.isLessThan(wire)) {
                    wire.copyFrom(candidate);
                    sender = port;
                }
            }
            return sender;
        }

        private boolean mayBegin(Port port) {
            return port.waiting > 0 && port.address != 0 && addressFor(port) != 0;
        }

        private int addressFor(Port port) {
            if (!port.owner) {
                return OWNER_ADDRESS;
            }
            int target = port.first().target;
            if (target >= FIRST_FAR_ENDPOINT) {
                return number == 1 ? target - 16 : enumeration.bridgeAddress;
            }
            return number == 1 ? 0 : target + 7;
        }

        private void writeRow(Port port) {
            Packet packet = port.first();
            candidate.start();
            candidate.add(addressFor(port));
            candidate.add(packet.target);
            candidate.add(packet.source);
            candidate.add(packet.flags);
            for (int i = 0; i < packet.length; i++) {
                candidate.add(packet.bytes[i]);
            }
            candidate.addCheck();
        }

        int firstEndpoint() {
            return number == 0 ? FIRST_NEAR_ENDPOINT : FIRST_FAR_ENDPOINT;
        }

        /** The identity that is left when all ports not resolved send theirs; NONE if all are. */
        int leastUnresolved() {
            int least = NONE;
            for (int d = 0; d < NODES; d++) {
                Port port = ports[d];
                if (port != null && !port.resolved && (least == NONE || port.identity < least)) {
                    least = port.identity;
                }
            }
            return least;
        }

        void unresolveAll() {
            for (int d = 0; d < NODES; d++) {
                if (ports[d] != null && !ports[d].owner) {
                    ports[d].resolved = false;
                }
            }
        }

        void giveAddress(int identity, int address) {
            for (int d = 0; d < NODES; d++) {
                Port port = ports[d];
                if (port != null && !port.resolved && port.identity == identity) {
                    port.address = address;
                    port.resolved = true;
                }
            }
        }

        void giveEndpoint(int address, int endpoint) {
            for (int d = 0; d < NODES; d++) {
                Port port = ports[d];
                if (port != null && !port.owner && port.address == address) {
                    port.endpoint = endpoint;
                }
            }
        }
    }

    /** How the owner of a bus finds the ports there, one step a tick. */
    private static final class Enumeration {
        private static final int GOING_ON = 1;
        private static final int DONE = 2;
        private static final int FAILED = 3;

        private static final int PREPARE = 0;
        private static final int ASK = 1;
        private static final int GIVE = 2;
        private static final int SET = 3;

        int state;
        int assigned;
        int tries;
        /** What the bridge's identity was given in the latest enumeration that was done. */
        int bridgeAddress;
        private int stage;
        private int heard;
        private int setIndex;
        private int givenToBridge;

        boolean goesOn() {
            return state == GOING_ON;
        }

        void begin() {
            state = GOING_ON;
            enter(PREPARE);
        }

        void step(Bus bus) {
            if (stage == PREPARE) {
                prepare(bus);
                return;
            }
            if (stage == ASK) {
                listen(bus);
            }
            if (!goesOn()) {
                return;
            }
            writeRow(bus);
            if (bus.transmit()) {
                carryOut(bus);
            } else {
                fail();
            }
        }

        private void prepare(Bus bus) {
            bus.unresolveAll();
            assigned = 0;
            givenToBridge = 0;
            enter(ASK);
        }

        /** With nobody left who sends, ASK is over before there was a transaction. */
        private void listen(Bus bus) {
            heard = bus.leastUnresolved();
            if (heard == NONE) {
                leaveAsk();
            } else if (assigned == MAX_ASSIGNED) {
                end(FAILED);
            }
        }

        private void leaveAsk() {
            if (assigned == 0) {
                finish();
            } else {
                setIndex = 0;
                enter(SET);
            }
        }

        private void writeRow(Bus bus) {
            Row row = bus.wire;
            row.start();
            if (stage == SET) {
                row.add(FIRST_ADDRESS + setIndex);
                row.add(bus.firstEndpoint() + setIndex);
            } else {
                row.add(heard / 256);
                row.add(heard % 256);
            }
            if (stage == GIVE) {
                row.add(FIRST_ADDRESS + assigned);
            }
            row.addCheck();
        }

        /** What a good transaction does. */
        private void carryOut(Bus bus) {
            switch (stage) {
                case ASK: enter(GIVE); break;
                case GIVE: giveNext(bus); break;
                default: setNext(bus); break;
            }
        }

        private void giveNext(Bus bus) {
            int address = FIRST_ADDRESS + assigned;
            bus.giveAddress(heard, address);
            assigned++;
            if (heard == BRIDGE_IDENTITY) {
                givenToBridge = address;
            }
            enter(ASK);
        }

        private void setNext(Bus bus) {
            bus.giveEndpoint(FIRST_ADDRESS + setIndex, bus.firstEndpoint() + setIndex);
            setIndex++;
            if (setIndex == assigned) {
                finish();
            } else {
                enter(SET);
            }
        }

        private void enter(int next) {
            stage = next;
            tries = 0;
        }

        private void fail() {
            tries++;
            if (tries == MAX_TRIES) {
                end(FAILED);
            }
        }

        private void finish() {
            bridgeAddress = givenToBridge;
            end(DONE);
        }

        private void end(int how) {
            state = how;
            tries = 0;
        }
    }

    /** What has come of a message from one source. */
    private static final class Part {
        final int source;
        int kind;
        int length;
        final int[] bytes = new int[MESSAGE_BYTES];
        /** False when there is no part: the object is kept for the next one. */
        boolean open;
        private int due;

        Part(int source) {
            this.source = source;
        }

        boolean isAnswer() {
            return kind < NO_ANSWER;
        }

        int tag() {
            return kind % TAGS;
        }

        /** Answers whether the message has come as a whole. */
        boolean collect(Packet packet) {
            if (packet.isFirst()) {
                kind = packet.kind();
                length = 0;
                open = true;
            } else if (packet.kind() != kind || packet.number() != due) {
                open = false;
            }
            if (length + packet.length > MESSAGE_BYTES) {
                open = false;
            }
            if (!open) {
                return false;
            }
            System.arraycopy(packet.bytes, 0, bytes, length, packet.length);
            length += packet.length;
            due = (packet.number() + 1) % NUMBERS;
            open = !packet.isLast();
            return !open;
        }
    }

    private abstract static class Node {
        final Port port;
        /** NONE while unplugged. */
        int bus;
        private final Part[] parts = new Part[ENDPOINTS];

        Node(boolean owner, int bus) {
            port = new Port(owner);
            this.bus = bus;
        }

        abstract void receive(Part message);

        /** A packet for another endpoint has come; all but the bridge leave it alone. */
        void passOn(Packet packet, int fromBus) {
        }

        /** Answers the message that this packet makes whole, or null. */
        final Part take(Packet packet, int fromBus) {
            if (packet.target != port.endpoint) {
                passOn(packet, fromBus);
                return null;
            }
            int source = packet.source;
            if (source < 0 || source >= ENDPOINTS) {
                return null;
            }
            if (parts[source] == null) {
                parts[source] = new Part(source);
            }
            return parts[source].collect(packet) ? parts[source] : null;
        }

        /** The kind is the tag, and 8 if it is no answer. */
        final void send(int target, int kind, int[] bytes, int length) {
            int packets = (length + PACKET_BYTES - 1) / PACKET_BYTES;
            if (!port.hasRoomFor(packets)) {
                return;
            }
            for (int i = 0; i < packets; i++) {
                int flags = kind + NUMBER_STEP * i;
                if (i == 0) {
                    flags += FLAG_FIRST;
                }
                if (i == packets - 1) {
                    flags += FLAG_LAST;
                }
                int start = PACKET_BYTES * i;
                Packet packet = port.append();
                packet.address(target, port.endpoint, flags);
                packet.fill(bytes, start, Math.min(PACKET_BYTES, length - start));
            }
        }

        final void forgetParts() {
            for (int i = 0; i < ENDPOINTS; i++) {
                if (parts[i] != null) {
                    parts[i].open = false;
                }
            }
        }
    }

    /** A device, and what the bridge shares with one. */
    private static class SensingNode extends Node {
        private static final int NOT_UNDERSTOOD = 0;
        private static final int READ_STATE = 1;
        private static final int SET_BOUNDS = 2;
        private static final int SET_RECEIVER = 3;
        private static final int READ_BLOCK = 4;
        private static final int WRITE_BLOCK = 5;

        private static final int NORMAL = 0;
        private static final int BELOW = 1;
        private static final int ABOVE = 2;
        private static final int LOW_AT_FIRST = -1000;
        private static final int HIGH_AT_FIRST = 1000;

        int value;
        int state = NORMAL;
        int low = LOW_AT_FIRST;
        int high = HIGH_AT_FIRST;
        int slack;
        final int[] blockBytes = new int[BLOCK_BYTES];
        int receiver;
        int eventCount;
        /** Where messages are written before they are cut into packets. */
        private final int[] letter = new int[MESSAGE_BYTES];

        SensingNode(int bus) {
            super(false, bus);
        }

        final void startAfresh(int newBus, int identity) {
            bus = newBus;
            port.startAfresh(identity);
            forgetParts();
            value = 0;
            state = NORMAL;
            low = LOW_AT_FIRST;
            high = HIGH_AT_FIRST;
            slack = 0;
            receiver = 0;
            eventCount = 0;
            Arrays.fill(blockBytes, 0);
        }

        final void senseNow() {
            int before = state;
            state = stateAfter(before);
            if (state == before || receiver == 0) {
                return;
            }
            letter[0] = EVENT_BYTE;
            writeState();
            send(receiver, NO_ANSWER + eventCount % TAGS, letter, EVENT_LENGTH);
            eventCount++;
        }

        private int stateAfter(int before) {
            if (value > high || (before == ABOVE && value >= high - slack)) {
                return ABOVE;
            }
            if (value < low || (before == BELOW && value <= low + slack)) {
                return BELOW;
            }
            return NORMAL;
        }

        final void receive(Part message) {
            if (message.isAnswer()) {
                return;
            }
            int command = commandOf(message);
            int[] said = message.bytes;
            int length = 1;
            switch (command) {
                case READ_STATE:
                    length = writeState();
                    break;
                case SET_BOUNDS:
                    setBounds(said);
                    senseNow();
                    break;
                case SET_RECEIVER:
                    receiver = said[1];
                    break;
                case READ_BLOCK:
                    System.arraycopy(blockBytes, said[1], letter, 1, said[2]);
                    length = 1 + said[2];
                    break;
                case WRITE_BLOCK:
                    System.arraycopy(said, 2, blockBytes, said[1], message.length - 2);
                    break;
                default:
                    break;
            }
            letter[0] = command == NOT_UNDERSTOOD ? 255 : 128 + command;
            send(message.source, message.tag(), letter, length);
        }

        /** The command of a message that is as the document says; else NOT_UNDERSTOOD. */
        private static int commandOf(Part message) {
            int command = message.bytes[0];
            int place = message.bytes[1];
            int length = message.length;
            boolean sound;
            switch (command) {
                case READ_STATE: sound = length == 1; break;
                case SET_BOUNDS: sound = length == 6; break;
                case SET_RECEIVER: sound = length == 2; break;
                case READ_BLOCK: sound = length == 3 && fits(place, message.bytes[2]); break;
                case WRITE_BLOCK: sound = fits(place, length - 2); break;
                default: sound = false; break;
            }
            return sound ? command : NOT_UNDERSTOOD;
        }

        private static boolean fits(int place, int count) {
            return count >= 1 && place + count <= BLOCK_BYTES;
        }

        private void setBounds(int[] said) {
            low = signed(said[1], said[2]);
            high = signed(said[3], said[4]);
            slack = said[5];
        }

        /** State and value stand behind the first byte, which the caller writes. */
        private int writeState() {
            letter[1] = state;
            letter[2] = value >> 8 & 255;
            letter[3] = value & 255;
            return EVENT_LENGTH;
        }
    }

    private static final class Bridge extends SensingNode {
        final Port farPort = new Port(true);

        Bridge() {
            super(0);
            port.identity = BRIDGE_IDENTITY;
        }

        void passOn(Packet packet, int fromBus) {
            boolean isForBus1 = packet.target >= FIRST_FAR_ENDPOINT;
            if (isForBus1 != (fromBus == 0)) {
                return;
            }
            Port other = fromBus == 0 ? farPort : port;
            if (other.hasRoomFor(1)) {
                Packet copy = other.append();
                copy.address(packet.target, packet.source, packet.flags);
                copy.fill(packet.bytes, 0, packet.length);
            }
        }
    }

    private static final class Manager extends Node {
        final int[] sheetBytes = new int[MESSAGE_BYTES];
        /** The log, in a ring. */
        final int[] eventSources = new int[LOG_EVENTS];
        final int[] eventStates = new int[LOG_EVENTS];
        final int[] eventValues = new int[LOG_EVENTS];
        int events;
        private int nextEvent;
        private final Request[] requests = new Request[MAX_REQUESTS];
        private int requestCount;

        Manager() {
            super(true, 0);
            port.endpoint = MANAGER_ENDPOINT;
        }

        Request requestAt(int r) {
            return r >= 0 && r < requestCount ? requests[r] : null;
        }

        int openRequest(int endpoint, int length) {
            if (requestCount == MAX_REQUESTS) {
                return NONE;
            }
            int number = requestCount;
            int[] bytes = Arrays.copyOf(sheetBytes, length);
            requests[number] = new Request(endpoint, number % TAGS, bytes);
            requestCount++;
            sendRequest(requests[number]);
            return number;
        }

        void lookAtRequests() {
            for (int i = 0; i < requestCount; i++) {
                if (requests[i].countDown()) {
                    sendRequest(requests[i]);
                }
            }
        }

        private void sendRequest(Request request) {
            send(request.endpoint, NO_ANSWER + request.tag, request.bytes, request.bytes.length);
        }

        void receive(Part message) {
            if (message.isAnswer()) {
                settleRequest(message);
            } else if (message.length == EVENT_LENGTH && message.bytes[0] == EVENT_BYTE) {
                logEvent(message);
            }
        }

        private void logEvent(Part message) {
            eventSources[nextEvent] = message.source;
            eventStates[nextEvent] = message.bytes[1];
            eventValues[nextEvent] = signed(message.bytes[2], message.bytes[3]);
            nextEvent = (nextEvent + 1) % LOG_EVENTS;
            events = Math.min(events + 1, LOG_EVENTS);
        }

        /** Where event k of the log stands in the ring, 0 being the latest. */
        int placeOfEvent(int k) {
            return (nextEvent - 1 - k + 2 * LOG_EVENTS) % LOG_EVENTS;
        }

        private void settleRequest(Part message) {
            for (int i = 0; i < requestCount; i++) {
                if (requests[i].isAnsweredBy(message)) {
                    requests[i].settle(message);
                    return;
                }
            }
        }
    }

    private static final class Request {
        private static final int WAITING = 1;
        private static final int ANSWERED = 2;
        private static final int LOST = 3;
        private static final int PATIENCE = 30;
        private static final int MAX_SENDINGS = 3;

        final int endpoint;
        final int tag;
        final int[] bytes;
        final int[] answerBytes = new int[MESSAGE_BYTES];
        int answerLength;
        int state = WAITING;
        int timer = PATIENCE;
        int sendings = 1;

        Request(int endpoint, int tag, int[] bytes) {
            this.endpoint = endpoint;
            this.tag = tag;
            this.bytes = bytes;
        }

        /** Looks at the request in a tick; answers whether it is to be sent again. */
        boolean countDown() {
            if (state != WAITING) {
                return false;
            }
            timer--;
            if (timer > 0) {
                return false;
            }
            if (sendings == MAX_SENDINGS) {
                state = LOST;
                return false;
            }
            sendings++;
            timer = PATIENCE;
            return true;
        }

        boolean isAnsweredBy(Part message) {
            return state == WAITING && endpoint == message.source && tag == message.tag();
        }

        void settle(Part message) {
            state = ANSWERED;
            answerLength = message.length;
            System.arraycopy(message.bytes, 0, answerBytes, 0, answerLength);
        }
    }
}

import java.math.BigInteger;

/** Buses that tests begin with, and what many tests do with them. */
final class Benches {
    private Benches() {
    }

    /** Devices 2, 3, .. on a bus with these identities, not yet enumerated. */
    static CountedBus plugged(int bus, int... identities) {
        CountedBus made = new CountedBus();
        for (int i = 0; i < identities.length; i++) {
            made.plug(2 + i, bus, identities[i]);
        }
        return made;
    }

    /** The same, both buses enumerated; the clock is 30 then and the buses are quiet. */
    static CountedBus ready(int bus, int... identities) {
        CountedBus made = plugged(bus, identities);
        made.enumerate(0);
        made.enumerate(1);
        made.tick(30);
        return made;
    }

    static int ask(CountedBus bus, int endpoint, int... bytes) {
        for (int i = 0; i < bytes.length; i++) {
            bus.sheet(i, bytes[i]);
        }
        return bus.ask(endpoint, bytes.length);
    }

    /** Asks, waits until it must be answered, and looks at the whole answer. */
    static void answered(Due due, CountedBus bus, int r, int... bytes) {
        bus.tick(12);
        due.is("request(" + r + ", 0)", bus.request(r, 0), 2);
        due.is("request(" + r + ", 4)", bus.request(r, 4), bytes.length);
        for (int k = 0; k < bytes.length; k++) {
            due.is("answer(" + r + ", " + k + ")", bus.answer(r, k), bytes[k]);
        }
        due.is("answer(" + r + ", " + bytes.length + ")", bus.answer(r, bytes.length), -1);
    }

    /** A tick in which the transaction on a bus is not good. */
    static void badTick(CountedBus bus, int b) {
        bus.noise(b, 0, 1);
        bus.tick(1);
    }

    /** Three such ticks: the packet that is to go next on that bus is dropped. */
    static void dropNext(CountedBus bus, int b) {
        for (int i = 0; i < 3; i++) {
            badTick(bus, b);
        }
    }

    static void setReceiver(CountedBus bus, int endpoint, int receiver) {
        ask(bus, endpoint, 3, receiver);
        bus.tick(12);
    }

    static void setBounds(CountedBus bus, int endpoint, int low, int high, int slack) {
        ask(bus, endpoint, 2, low >> 8 & 255, low & 255, high >> 8 & 255, high & 255, slack);
        bus.tick(12);
    }

    /** The latest transaction has these bytes and their check behind them. */
    static void wireIs(Due due, CountedBus bus, int b, int... bytes) {
        due.is("wire(" + b + ", NONE)", bus.wire(b, -1), bytes.length + 1);
        for (int k = 0; k < bytes.length; k++) {
            due.is("wire(" + b + ", " + k + ")", bus.wire(b, k), bytes[k]);
        }
        due.is("wire(" + b + ", " + bytes.length + ")", bus.wire(b, bytes.length), check(bytes));
    }

    static void enumerationIs(Due due, CountedBus bus, int b, int state, int assigned, int tries) {
        due.is("enumeration(" + b + ", 0)", bus.enumeration(b, 0), state);
        due.is("enumeration(" + b + ", 1)", bus.enumeration(b, 1), assigned);
        due.is("enumeration(" + b + ", 2)", bus.enumeration(b, 2), tries);
    }

    /** The check as a remainder: the bytes as one polynomial, eight zeros behind, divided by 263. */
    static int check(int... bytes) {
        BigInteger rest = BigInteger.ZERO;
        for (int value : bytes) {
            rest = rest.shiftLeft(8).add(BigInteger.valueOf(value));
        }
        rest = rest.shiftLeft(8);
        while (rest.bitLength() > 8) {
            rest = rest.xor(BigInteger.valueOf(263).shiftLeft(rest.bitLength() - 9));
        }
        return rest.intValue();
    }
}

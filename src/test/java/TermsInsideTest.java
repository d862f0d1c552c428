import java.lang.reflect.Constructor;
import java.lang.reflect.Field;
import java.lang.reflect.Method;

/**
 * Under "Terms": boundary cases that no run of calls can reach, because no node ever sends such a
 * packet. They are looked at inside the class; should the insides have other names one day, this
 * test has nothing to look at and says so.
 */
public final class TermsInsideTest {
    private static final int FIRST = 128;
    private static final int LAST = 64;

    public static void main(String[] args) throws ReflectiveOperationException {
        Due due = new Due();
        try {
            lookInside(due);
        } catch (ClassNotFoundException | NoSuchFieldException | NoSuchMethodException other) {
            System.out.println("other insides, nothing to look at: " + other);
            return;
        }
        due.end();
    }

    private static void lookInside(Due due) throws ReflectiveOperationException {
        partsUpTo32Bytes(due);
        partsOfMoreThan32Bytes(due);
        numbersTurnRound(due);
        anotherEight(due);
        sourcesUpTo63(due);
        rowThatEndsEarlier(due);
        messagesWithoutEight(due);
        whatIsAnEvent(due);
        portWithoutAnAddress(due);
        nearTargetOnBus1(due);
    }

    private static Class<?> inside(String name) throws ClassNotFoundException {
        for (Class<?> nested : ManagedBus.class.getDeclaredClasses()) {
            if (nested.getSimpleName().equals(name)) {
                return nested;
            }
        }
        throw new ClassNotFoundException(name);
    }

    private static Object make(String name, Object... args) throws ReflectiveOperationException {
        for (Constructor<?> constructor : inside(name).getDeclaredConstructors()) {
            if (constructor.getParameterCount() == args.length && !constructor.isSynthetic()) {
                constructor.setAccessible(true);
                return constructor.newInstance(args);
            }
        }
        throw new NoSuchMethodException(name);
    }

    private static Field field(Object object, String name) throws ReflectiveOperationException {
        for (Class<?> c = object.getClass(); c != null; c = c.getSuperclass()) {
            for (Field field : c.getDeclaredFields()) {
                if (field.getName().equals(name)) {
                    field.setAccessible(true);
                    return field;
                }
            }
        }
        throw new NoSuchFieldException(name);
    }

    private static int number(Object object, String name) throws ReflectiveOperationException {
        return field(object, name).getInt(object);
    }

    private static Object call(Object object, String name, Object... args)
            throws ReflectiveOperationException {
        for (Class<?> c = object.getClass(); c != null; c = c.getSuperclass()) {
            for (Method method : c.getDeclaredMethods()) {
                if (method.getName().equals(name) && method.getParameterCount() == args.length) {
                    method.setAccessible(true);
                    return method.invoke(object, args);
                }
            }
        }
        throw new NoSuchMethodException(name);
    }

    private static Object packet(int target, int source, int flags, int... bytes)
            throws ReflectiveOperationException {
        Object packet = make("Packet");
        call(packet, "address", target, source, flags);
        call(packet, "fill", bytes, 0, bytes.length);
        return packet;
    }

    private static boolean collect(Object part, int flags, int count) throws ReflectiveOperationException {
        return (boolean) call(part, "collect", packet(8, 9, flags, new int[count]));
    }

    private static boolean isOpen(Object part) throws ReflectiveOperationException {
        return field(part, "open").getBoolean(part);
    }

    private static Object partOf24Bytes() throws ReflectiveOperationException {
        Object part = make("Part", 9);
        collect(part, FIRST, 8);
        collect(part, 16, 8);
        collect(part, 32, 8);
        return part;
    }

    private static void partsUpTo32Bytes(Due due) throws ReflectiveOperationException {
        Object whole = partOf24Bytes();
        due.yes("8 bytes more and LAST", collect(whole, LAST + 48, 8));
        due.is("length", number(whole, "length"), 32);
        due.no("open", isOpen(whole));
        Object more = partOf24Bytes();
        due.no("8 bytes more without LAST", collect(more, 48, 8));
        due.yes("open with 32 bytes", isOpen(more));
    }

    private static void partsOfMoreThan32Bytes(Due due) throws ReflectiveOperationException {
        int[] flags = {0, LAST};
        for (int flag : flags) {
            Object part = partOf24Bytes();
            collect(part, 48, 8);
            due.no("the 33rd byte, flags " + flag, collect(part, flag, 1));
            due.no("open with 33 bytes", isOpen(part));
            due.no("what comes then is nothing", collect(part, LAST + 16, 1));
            due.yes("FIRST begins anew", collect(part, FIRST + LAST, 1));
            due.is("length", number(part, "length"), 1);
        }
        Object shorter = partOf24Bytes();
        collect(shorter, 48, 7);
        due.yes("the 32nd byte", collect(shorter, LAST, 1));
        Object longer = partOf24Bytes();
        collect(longer, 48, 7);
        due.no("the 32nd and the 33rd byte", collect(longer, LAST, 2));
    }

    /** After number 3 the number 0 is due, wherever the first packet began. */
    private static void numbersTurnRound(Due due) throws ReflectiveOperationException {
        for (int first = 0; first < 4; first++) {
            for (int second = 0; second < 4; second++) {
                Object part = make("Part", 9);
                collect(part, FIRST + 16 * first, 1);
                boolean isDue = second == (first + 1) % 4;
                due.is(second + " after " + first, collect(part, LAST + 16 * second, 1) ? 1 : 0, isDue ? 1 : 0);
            }
        }
        Object part = make("Part", 9);
        collect(part, FIRST, 1);
        for (int i = 1; i < 9; i++) {
            due.no("not yet LAST", collect(part, 16 * (i % 4), 1));
            due.yes("open", isOpen(part));
        }
        due.yes("LAST", collect(part, LAST + 16, 1));
        due.is("length", number(part, "length"), 10);
    }

    /** What goes on must have the tag and the 8 of what began. */
    private static void anotherEight(Due due) throws ReflectiveOperationException {
        for (int first = 0; first < 16; first++) {
            for (int second = 0; second < 16; second++) {
                Object part = make("Part", 9);
                collect(part, FIRST + first, 1);
                boolean whole = collect(part, LAST + 16 + second, 1);
                due.is(second + " after " + first, whole ? 1 : 0, first == second ? 1 : 0);
                due.no("a part any more", isOpen(part));
            }
        }
    }

    private static void sourcesUpTo63(Due due) throws ReflectiveOperationException {
        Object node = make("SensingNode", 0);
        Object port = field(node, "port").get(node);
        field(port, "endpoint").setInt(port, 9);
        int[][] sourcesAndMessages = {{0, 1}, {8, 1}, {62, 1}, {63, 1}, {64, 0}, {128, 0}, {255, 0}};
        for (int[] pair : sourcesAndMessages) {
            Object message = call(node, "take", packet(9, pair[0], FIRST + LAST + 8, 1), 0);
            due.is("a message of source " + pair[0], message == null ? 0 : 1, pair[1]);
        }
        due.yes("another target", call(node, "take", packet(10, 8, FIRST + LAST + 8, 1), 0) == null);
    }

    private static Object row(int... bytes) throws ReflectiveOperationException {
        Object row = make("Row");
        for (int value : bytes) {
            call(row, "add", value);
        }
        return row;
    }

    private static void rowThatEndsEarlier(Due due) throws ReflectiveOperationException {
        due.yes("ends earlier", (boolean) call(row(8, 8, 9), "isLessThan", row(8, 8, 9, 0)));
        due.no("goes on", (boolean) call(row(8, 8, 9, 0), "isLessThan", row(8, 8, 9)));
        due.no("the same", (boolean) call(row(8, 8, 9), "isLessThan", row(8, 8, 9)));
        due.yes("less before its end", (boolean) call(row(8, 7, 9, 0), "isLessThan", row(8, 8, 9)));
        due.no("greater before its end", (boolean) call(row(8, 9), "isLessThan", row(8, 8, 9)));
        due.yes("no sign", (boolean) call(row(8, 127), "isLessThan", row(8, 128)));
    }

    private static void messagesWithoutEight(Due due) throws ReflectiveOperationException {
        for (int eight = 0; eight <= 8; eight += 8) {
            Object node = make("SensingNode", 0);
            Object port = field(node, "port").get(node);
            field(port, "endpoint").setInt(port, 9);
            Object message = call(node, "take", packet(9, 8, FIRST + LAST + eight, 3, 77), 0);
            call(node, "receive", message);
            due.is("answers, with " + eight, number(port, "waiting"), eight / 8);
            due.is("receiver, with " + eight, number(node, "receiver"), eight == 8 ? 77 : 0);
        }
    }

    /** With 8, of four bytes, the first of them 64: nothing else comes into the log. */
    private static void whatIsAnEvent(Due due) throws ReflectiveOperationException {
        int[][] messages = {{64, 1, 2, 3}, {64, 1, 2}, {64, 1, 2, 3, 4}, {63, 1, 2, 3}, {65, 1, 2, 3}, {64}};
        for (int i = 0; i < messages.length; i++) {
            for (int eight = 0; eight <= 8; eight += 8) {
                Object manager = make("Manager");
                Object message = call(manager, "take", packet(8, 9, FIRST + LAST + eight, messages[i]), 0);
                call(manager, "receive", message);
                int want = i == 0 && eight == 8 ? 1 : 0;
                due.is("events after message " + i + " with " + eight, number(manager, "events"), want);
            }
        }
    }

    private static Object busWith(int number, Object port) throws ReflectiveOperationException {
        Object bus = make("Bus", number);
        Object ports = field(bus, "ports").get(bus);
        java.lang.reflect.Array.set(ports, 1, port);
        return bus;
    }

    private static Object portWith(boolean owner, int target) throws ReflectiveOperationException {
        Object port = make("Port", owner);
        Object packet = call(port, "append");
        call(packet, "address", target, 9, FIRST + LAST);
        call(packet, "fill", new int[1], 0, 1);
        return port;
    }

    private static void portWithoutAnAddress(Due due) throws ReflectiveOperationException {
        Object port = portWith(false, 8);
        due.yes("address 0 does not begin", call(busWith(0, port), "findSender") == null);
        field(port, "address").setInt(port, 16);
        due.yes("address 16 begins", call(busWith(0, port), "findSender") == port);
    }

    /** The document tells no address for a packet of the bridge on bus 1 to 31 and below. */
    private static void nearTargetOnBus1(Due due) throws ReflectiveOperationException {
        Object near = portWith(true, 31);
        due.yes("31 does not begin on bus 1", call(busWith(1, near), "findSender") == null);
        Object far = portWith(true, 32);
        due.yes("32 begins on bus 1", call(busWith(1, far), "findSender") == far);
    }
}

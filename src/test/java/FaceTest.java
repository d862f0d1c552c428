import java.lang.reflect.Constructor;
import java.lang.reflect.Field;
import java.lang.reflect.Method;
import java.lang.reflect.Modifier;
import java.util.Set;
import java.util.TreeSet;

/** The public face is the document's, and nothing else can be seen from outside. */
public final class FaceTest {
    private static final Set<String> FACE = Set.of(
        "boolean plug(int,int,int)", "boolean unplug(int)", "boolean enumerate(int)",
        "boolean noise(int,int,int)", "int tick(int)", "boolean sheet(int,int)", "int ask(int,int)",
        "boolean sensor(int,int)", "int enumeration(int,int)", "int node(int,int)", "int sense(int,int)",
        "int block(int,int)", "int request(int,int)", "int answer(int,int)", "int event(int,int)",
        "int wire(int,int)");

    public static void main(String[] args) throws ReflectiveOperationException {
        Due due = new Due();
        Class<?> face = ManagedBus.class;
        due.yes("public final class", Modifier.toString(face.getModifiers()).equals("public final"));
        Set<String> seen = new TreeSet<>();
        for (Method method : face.getDeclaredMethods()) {
            if (method.isSynthetic() || Modifier.isPrivate(method.getModifiers())) {
                due.no("a private " + method.getName(), isNameOfTheFace(method.getName()));
                continue;
            }
            due.yes("public " + method, Modifier.toString(method.getModifiers()).equals("public"));
            String text = method.toString().replace("public ", "").replace("ManagedBus.", "");
            seen.add(text);
        }
        due.yes("the methods of the face, seen " + seen, seen.equals(FACE));
        for (Field field : face.getDeclaredFields()) {
            boolean isPrivate = Modifier.isPrivate(field.getModifiers());
            due.yes("field " + field.getName(), isPrivate || field.getName().equals("NONE"));
        }
        String none = Modifier.toString(face.getField("NONE").getModifiers());
        due.yes("NONE is " + none, none.equals("public static final"));
        Constructor<?>[] made = face.getDeclaredConstructors();
        due.is("constructors", made.length, 1);
        due.yes("public constructor", Modifier.isPublic(made[0].getModifiers()));
        due.is("parameters of the constructor", made[0].getParameterCount(), 0);
        nestedClasses(due, face);
        due.end();
    }

    private static void nestedClasses(Due due, Class<?> face) {
        for (Class<?> nested : face.getDeclaredClasses()) {
            int modifiers = nested.getModifiers();
            due.yes("static " + nested, Modifier.isStatic(modifiers) && !Modifier.isPublic(modifiers));
            for (Method method : nested.getDeclaredMethods()) {
                boolean isPrivate = Modifier.isPrivate(method.getModifiers());
                due.no("a private " + method, isPrivate && isNameOfTheFace(method.getName()));
            }
        }
    }

    private static boolean isNameOfTheFace(String name) {
        for (String method : FACE) {
            if (method.contains(" " + name + "(")) {
                return true;
            }
        }
        return false;
    }
}

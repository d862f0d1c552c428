import java.io.IOException;
import java.lang.reflect.Executable;
import java.lang.reflect.Field;
import java.lang.reflect.Modifier;
import java.nio.file.Files;
import java.nio.file.Path;
import java.util.ArrayList;
import java.util.List;
import java.util.Set;
import java.util.regex.Matcher;
import java.util.regex.Pattern;

/** Rules of LANGUAGE.md that a look at the file or at the compiled class can tell. */
public final class LanguageTest {
    private static final Path FILE = Path.of("src/main/java/ManagedBus.java");
    private static final int MOST_CLASSES = 12;
    private static final int MOST_FIELDS = 20;
    private static final int MOST_PARAMETERS = 7;
    private static final int MOST_LINES = 60;

    /** Rules 2, 6 and 13: what does not stand in the file at all. */
    private static final List<String> NEVER = List.of("->", "::", "\\bthrow\\b", "\\bthrows\\b", "\\btry\\b",
        "\\bcatch\\b", "\\bfinally\\b", "\\bsynchronized\\b", "\\bassert\\b", "\\bpackage\\b", "\\bprotected\\b",
        "\\bvolatile\\b", "\\bnative\\b", "\\bstatic \\{", "\\bequals\\(", "\\bhashCode\\(", "\\btoString\\(",
        "\\bThread\\b", "\\bObject\\b", "Exact\\(", "\"");
    /** Rule 4: the only calls of the library that the file makes. */
    private static final Pattern LIBRARY = Pattern.compile("\\b(System|Arrays|Math|Integer|Long)\\.(\\w+)");
    private static final Set<String> ALLOWED = Set.of("System.arraycopy", "Arrays.copyOf", "Arrays.fill", "Math.min");
    private static final Set<Class<?>> TYPES = Set.of(int.class, boolean.class, int[].class);

    private final Due due = new Due();

    public static void main(String[] args) throws IOException {
        LanguageTest test = new LanguageTest();
        String text = withoutComments(Files.readString(FILE));
        test.words(text);
        test.methodLengths(text);
        List<Class<?>> classes = new ArrayList<>(List.of(ManagedBus.class.getDeclaredClasses()));
        classes.add(ManagedBus.class);
        test.due.yes("classes: " + classes.size(), classes.size() <= MOST_CLASSES);
        for (Class<?> one : classes) {
            test.fields(one);
            test.parameters(one);
        }
        test.due.end();
    }

    private static String withoutComments(String text) {
        return text.replaceAll("(?s)/\\*.*?\\*/", "").replaceAll("//[^\n]*", "");
    }

    private void words(String text) {
        for (String word : NEVER) {
            due.no("the file has " + word, Pattern.compile(word).matcher(text).find());
        }
        for (String line : text.split("\n")) {
            due.yes(line, !line.startsWith("import ") || line.equals("import java.util.Arrays;"));
        }
        Matcher call = LIBRARY.matcher(text);
        while (call.find()) {
            due.yes("the library: " + call.group(), ALLOWED.contains(call.group()));
        }
    }

    /** By indentation: a method begins where a line opens a brace behind its parameters. */
    private void methodLengths(String text) {
        String[] lines = text.split("\n");
        Pattern head = Pattern.compile("( {4}| {8})\\w.*\\) \\{");
        for (int i = 0; i < lines.length; i++) {
            Matcher begin = head.matcher(lines[i]);
            if (begin.matches()) {
                int end = i;
                while (end < lines.length - 1 && !lines[end].equals(begin.group(1) + "}")) {
                    end++;
                }
                due.yes(lines[i] + " has lines: " + (end - i + 1), end - i + 1 <= MOST_LINES);
            }
        }
    }

    /** Rules 3, 5 and 11. */
    private void fields(Class<?> one) {
        int own = 0;
        for (Field field : one.getDeclaredFields()) {
            if (Modifier.isStatic(field.getModifiers())) {
                boolean isConstant = Modifier.isFinal(field.getModifiers()) && field.getType() == int.class;
                due.yes("a constant: " + field, isConstant);
            } else {
                own++;
                due.yes("type of " + field, TYPES.contains(field.getType()) || isOwn(field.getType()));
            }
        }
        due.yes("fields of " + one + ": " + own, own <= MOST_FIELDS);
    }

    private static boolean isOwn(Class<?> type) {
        Class<?> part = type.isArray() ? type.getComponentType() : type;
        return part == ManagedBus.class || part.getDeclaringClass() == ManagedBus.class;
    }

    private void parameters(Class<?> one) {
        List<Executable> all = new ArrayList<>(List.of(one.getDeclaredMethods()));
        all.addAll(List.of(one.getDeclaredConstructors()));
        for (Executable each : all) {
            due.yes("parameters of " + each, each.getParameterCount() <= MOST_PARAMETERS);
        }
    }
}

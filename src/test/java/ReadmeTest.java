import java.io.IOException;
import java.nio.file.Files;
import java.nio.file.Path;
import java.util.Set;
import java.util.TreeSet;
import java.util.regex.Matcher;
import java.util.regex.Pattern;

/** The calls in README.md answer what stands behind them there, and all calls of the face are shown. */
public final class ReadmeTest {
    private static final Pattern SHOWN = Pattern.compile("bus\\.(\\w+)\\(([^)]*)\\);\\s+// ([^:]+)(: .*)?");
    private static final int CALLS_OF_THE_FACE = 16;

    private final Due due = new Due();
    private final Set<String> seen = new TreeSet<>();
    private CountedBus bus;

    public static void main(String[] args) throws IOException {
        ReadmeTest test = new ReadmeTest();
        boolean isShown = false;
        for (String line : Files.readAllLines(Path.of("README.md"))) {
            if (line.startsWith("```")) {
                isShown = line.equals("```java");
            } else if (isShown) {
                test.look(line);
            }
        }
        test.due.is("calls of the face that are shown, " + test.seen, test.seen.size(), CALLS_OF_THE_FACE);
        test.due.end();
    }

    private void look(String line) {
        if (line.equals("ManagedBus bus = new ManagedBus();")) {
            bus = new CountedBus();
            return;
        }
        Matcher shown = SHOWN.matcher(line);
        boolean isCall = shown.matches();
        due.yes("a call with its answer: " + line, isCall);
        if (isCall) {
            String[] words = shown.group(2).split(", ");
            int[] args = new int[words.length];
            for (int i = 0; i < words.length; i++) {
                args[i] = number(words[i]);
            }
            due.is(line, new Call(shown.group(1), args).on(bus), number(shown.group(3)));
            seen.add(shown.group(1));
        }
    }

    private static int number(String word) {
        switch (word) {
            case "true": return 1;
            case "false": return 0;
            case "NONE": case "ManagedBus.NONE": return ManagedBus.NONE;
            default: return Integer.parseInt(word);
        }
    }
}

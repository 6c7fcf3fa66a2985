import java.io.IOException;
import java.lang.reflect.InvocationTargetException;
import java.lang.reflect.Method;
import java.nio.file.Files;
import java.nio.file.Path;
import java.util.ArrayList;
import java.util.List;
import java.util.Set;
import java.util.TreeSet;
import java.util.regex.Matcher;
import java.util.regex.Pattern;

/** The example that README.md gives: its calls answer what README.md says that they answer. */
public final class ReadmeTest {
    private static final Check CHECK = new Check();
    private static final Pattern NEW =
            Pattern.compile("StageCycles core = new StageCycles\\(([^)]*)\\); // (.*)");
    private static final Pattern CALL =
            Pattern.compile("core\\.(\\w+)\\(([^)]*)\\); +// (throws \\w+|true|false|-?\\d+)(: .*)?");
    private static final String[] SHAPE = {"N", "R", "FA", "FL", "B", "M"};

    private final Set<String> called = new TreeSet<>();
    private StageCycles core;

    public static void main(String[] args) throws IOException {
        List<String> example = example(Files.readAllLines(Path.of("README.md")));
        CHECK.sentence("README.md's example", () -> new ReadmeTest().follow(example));
        CHECK.end();
    }

    /** The lines of README.md's java blocks. */
    private static List<String> example(List<String> lines) {
        List<String> example = new ArrayList<>();
        boolean inside = false;
        for (String line : lines) {
            if (line.startsWith("```")) {
                inside = line.equals("```java");
            } else if (inside && !line.isBlank()) {
                example.add(line);
            }
        }
        return example;
    }

    private void follow(List<String> example) {
        for (String line : example) {
            Matcher made = NEW.matcher(line);
            Matcher call = CALL.matcher(line);
            if (made.matches()) {
                make(line, made.group(1), made.group(2));
            } else if (call.matches() && core != null) {
                CHECK.due(line, answer(call.group(1), call.group(2)), call.group(3));
            } else {
                CHECK.due("a line that is a call and its answer", line, "one");
            }
        }
        CHECK.due("the calls of the example", called.toString(), face().toString());
    }

    private void make(String line, String given, String shape) {
        int[] g = numbers(given);
        core = new StageCycles(g[0], g[1], g[2], g[3], g[4], g[5]);
        StringBuilder got = new StringBuilder();
        for (int i = 0; i < SHAPE.length; i++) {
            got.append(i == 0 ? "" : ", ").append(SHAPE[i]).append(' ').append(core.count(6 + i));
        }
        CHECK.due(line, got.toString(), shape);
    }

    private static int[] numbers(String given) {
        String[] texts = given.split(", ");
        int[] numbers = new int[texts.length];
        for (int i = 0; i < texts.length; i++) {
            numbers[i] = Integer.parseInt(texts[i]);
        }
        return numbers;
    }

    private String answer(String name, String given) {
        called.add(name);
        try {
            return String.valueOf(method(name).invoke(core, values(given)));
        } catch (InvocationTargetException e) {
            return "throws " + e.getCause().getClass().getSimpleName();
        } catch (IllegalAccessException e) {
            return e.toString();
        }
    }

    private static Object[] values(String given) {
        if (given.isEmpty()) {
            return new Object[0];
        }
        String[] texts = given.split(", ");
        Object[] values = new Object[texts.length];
        for (int i = 0; i < texts.length; i++) {
            boolean truth = texts[i].equals("true") || texts[i].equals("false");
            if (truth) {
                values[i] = texts[i].equals("true");
            } else {
                values[i] = Integer.parseInt(texts[i]);
            }
        }
        return values;
    }

    private static Method method(String name) {
        for (Method method : StageCycles.class.getDeclaredMethods()) {
            if (method.getName().equals(name)) {
                return method;
            }
        }
        throw new IllegalStateException("there is no " + name);
    }

    /** Every call of the document's face is in the example, so that a reader sees each of them at work. */
    private static Set<String> face() {
        return new TreeSet<>(Set.of("word", "set", "clear", "run", "stage", "committed", "register", "memory",
                "cause", "count"));
    }
}

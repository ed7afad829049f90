import java.io.IOException;
import java.nio.file.Files;
import java.nio.file.Path;
import java.util.ArrayList;
import java.util.HashMap;
import java.util.List;
import java.util.Map;
import java.util.Set;
import java.util.TreeSet;
import java.util.regex.Matcher;
import java.util.regex.Pattern;
import java.util.stream.Stream;
import javax.tools.ToolProvider;

/**
 * What README.md shows answers as it says there, in the class and in the model; it shows every call of the face, is
 * Java that compiles, and tells of every test.
 */
public final class ReadmeTest {
    private static final Pattern MADE = Pattern.compile("FlashVault vault = new FlashVault\\((\\d+)\\);\\s*//.*");
    private static final Pattern CALL = Pattern.compile(
            "(?:(?:int )?(\\w+) = )?vault\\.(\\w+)\\(([^()]*)\\);\\s*// (answers|throws) (\\w+)(?:: .*)?");

    private static int wrong = 0;

    private static void tell(String what) {
        wrong++;
        System.out.println(what);
    }

    /** The lines of all the examples, which are one run. */
    private static List<String> examples(String readme) {
        List<String> lines = new ArrayList<>();
        Matcher m = Pattern.compile("(?s)```java\\n(.*?)```").matcher(readme);
        while (m.find()) {
            lines.addAll(m.group(1).lines().filter(line -> !line.isBlank()).toList());
        }
        return lines;
    }

    private static long number(String text) {
        return text.startsWith("0x") ? Long.parseUnsignedLong(text.substring(2), 16) : Long.parseLong(text);
    }

    private static Object argument(String text, Map<String, Integer> names) {
        if (text.equals("true") || text.equals("false")) {
            return text.equals("true");
        }
        return names.containsKey(text) ? names.get(text) : (Object) (int) number(text);
    }

    private static Object[] arguments(String text, Map<String, Integer> names) {
        if (text.isEmpty()) {
            return new Object[0];
        }
        return Stream.of(text.split(", ")).map(s -> argument(s, names)).toArray();
    }

    private static void run(List<String> lines) {
        Map<String, Integer> names = new HashMap<>();
        Set<String> shown = new TreeSet<>();
        Pair pair = null;
        for (String line : lines) {
            Matcher made = MADE.matcher(line);
            Matcher m = CALL.matcher(line);
            if (made.matches()) {
                pair = new Pair("README.md", Integer.parseInt(made.group(1)));
            } else if (!m.matches() || pair == null) {
                tell("README.md, no call with its answer: " + line);
            } else {
                String due = m.group(4).equals("throws") ? "throws." + m.group(5) : "" + number(m.group(5));
                String got = Call.of(m.group(2), arguments(m.group(3), names)).on(pair.vault);
                String asked = Call.of(m.group(2), arguments(m.group(3), names)).on(pair.model);
                if (!got.equals(due) || !asked.equals(due)) {
                    tell("README.md: " + line + " - the class answers " + got + ", the model " + asked);
                }
                if (m.group(1) != null && !got.startsWith("throws.")) {
                    names.put(m.group(1), Integer.parseInt(got));
                }
                shown.add(m.group(2));
            }
        }
        if (shown.size() != 28) {
            tell("README.md shows these calls alone: " + shown);
        }
    }

    private static void compile(List<String> lines) throws IOException {
        Path work = Files.createTempDirectory("readme");
        Path source = work.resolve("Example.java");
        Files.writeString(source, "final class Example {\n    static void run() {\n" + String.join("\n", lines) + "\n    }\n}\n");
        String classes = System.getProperty("java.class.path");
        int code = ToolProvider.getSystemJavaCompiler().run(null, null, null, "-cp", classes, "-d", work.toString(), source.toString());
        if (code != 0) {
            tell("README.md: the examples do not compile");
        }
        Files.deleteIfExists(work.resolve("Example.class"));
        Files.delete(source);
        Files.delete(work);
    }

    private static void tests(String readme) throws IOException {
        try (Stream<Path> files = Stream.concat(Files.list(Path.of("src/test/java")), Files.list(Path.of("src/test/java/support")))) {
            for (Path file : files.filter(f -> f.toString().endsWith(".java")).toList()) {
                String name = file.getFileName().toString().replace(".java", "");
                if (!readme.contains("`" + name + "`")) {
                    tell("README.md does not tell of " + name);
                }
            }
        }
        if (!readme.contains("\n    .ci/run\n")) {
            tell("README.md does not tell how to run the tests");
        }
    }

    public static void main(String[] args) throws IOException {
        String readme = Files.readString(Path.of("README.md"));
        List<String> lines = examples(readme);
        run(lines);
        compile(lines);
        tests(readme);
        System.out.println(wrong == 0 ? "all " + lines.size() + " lines of the examples answer as they say" : wrong + " things are not as due");
        if (wrong != 0) {
            System.exit(1);
        }
    }
}

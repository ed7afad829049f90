import java.io.IOException;
import java.io.PrintWriter;
import java.io.StringWriter;
import java.lang.reflect.Array;
import java.lang.reflect.Field;
import java.lang.reflect.Modifier;
import java.nio.file.Files;
import java.nio.file.Path;
import java.util.ArrayList;
import java.util.Collections;
import java.util.HashMap;
import java.util.HashSet;
import java.util.IdentityHashMap;
import java.util.List;
import java.util.Map;
import java.util.Set;
import java.util.TreeMap;
import java.util.TreeSet;
import java.util.regex.Matcher;
import java.util.regex.Pattern;
import java.util.spi.ToolProvider;
import java.util.stream.Stream;

/**
 * The rules of LANGUAGE.md that can be read off the compiled class: what of the library is called, how deep calls go,
 * where objects are made, what is caught, and that nothing is cast; and the room that an object takes.
 */
public final class LanguageTest {
    private static final int DEEPEST = 8;
    private static final Set<String> LIBRARY = Set.of(
            "java/lang/Object.<init>", "java/lang/Math.min", "java/lang/Math.max", "java/lang/Math.floorMod",
            "java/lang/System.arraycopy", "java/util/Arrays.fill");
    private static final Set<String> THROWN = Set.of(
            "java/lang/IllegalStateException", "java/lang/IllegalArgumentException", "java/lang/IndexOutOfBoundsException",
            "java/lang/UnsupportedOperationException", "java/util/NoSuchElementException");

    private static final Pattern METHOD = Pattern.compile("  (?:[\\w.$\\[\\]]+ )*([\\w.$]+)\\(.*\\)(?: throws .*)?;");
    private static final Pattern CALLED = Pattern.compile(".* invoke\\w+ .*// (?:Interface)?Method ([^:]+):.*");
    private static final Pattern MADE = Pattern.compile(".* (new|newarray|anewarray|multianewarray) +(.*)");
    private static final Pattern CAUGHT = Pattern.compile(" +\\d+ +\\d+ +\\d+ +(any|Class .*)");

    private static final Map<String, Set<String>> calls = new TreeMap<>();
    private static final Map<String, Integer> depths = new HashMap<>();
    private static int wrong = 0;

    private static void due(boolean fine, String what) {
        if (!fine) {
            wrong++;
            System.out.println("not as due: " + what);
        }
    }

    private static String disassembled(List<String> files) {
        StringWriter text = new StringWriter();
        ToolProvider javap = ToolProvider.findFirst("javap").orElseThrow();
        List<String> arguments = new ArrayList<>(List.of("-c", "-p"));
        arguments.addAll(files);
        javap.run(new PrintWriter(text), new PrintWriter(System.out, true), arguments.toArray(new String[0]));
        return text.toString();
    }

    private static void read(String text) {
        String type = "";
        String method = "";
        for (String line : text.lines().toList()) {
            Matcher head = Pattern.compile(".*class (\\S+).* \\{").matcher(line);
            Matcher m = METHOD.matcher(line);
            if (head.matches()) {
                type = head.group(1);
            } else if (m.matches()) {
                method = type + "." + (m.group(1).equals(type) ? "<init>" : m.group(1));
                calls.put(method, new TreeSet<>());
            } else {
                look(type, method, line);
            }
        }
    }

    private static void look(String type, String method, String line) {
        Matcher called = CALLED.matcher(line);
        Matcher made = MADE.matcher(line);
        Matcher caught = CAUGHT.matcher(line);
        if (called.matches()) {
            String name = called.group(1).replace("\"", "");
            calls.get(method).add(name.contains(".") ? name : type + "." + name);
        } else if (made.matches()) {
            boolean exception = THROWN.contains(made.group(2).replaceAll(".*// class ", ""));
            due(exception != method.endsWith(".<init>"), method + " makes " + made.group(2) + ": rows are made in constructors alone");
        } else if (caught.matches()) {
            due(caught.group(1).equals("Class java/lang/IllegalStateException"), method + " catches " + caught.group(1));
        }
        due(!line.contains("checkcast") && !line.contains("invokedynamic") && !line.contains("monitorenter"), method + ": " + line.strip());
    }

    /** How many calls stand open at once, the library's own among them. */
    private static int depth(String method, Set<String> open) {
        if (!open.add(method)) {
            due(false, method + " calls itself");
            return 0;
        }
        Integer known = depths.get(method);
        int deepest = 0;
        for (String called : known == null ? calls.getOrDefault(method, Set.of()) : Set.<String>of()) {
            deepest = Math.max(deepest, depth(called, open));
        }
        open.remove(method);
        depths.putIfAbsent(method, deepest + 1);
        return depths.get(method);
    }

    private static void library(String method, String called) {
        String type = called.substring(0, called.lastIndexOf('.'));
        boolean fine = calls.containsKey(called) || LIBRARY.contains(called) || called.endsWith(".<init>") && THROWN.contains(type);
        due(fine, method + " calls " + called);
    }

    // ---- the room ----

    private static final int MOST_OBJECTS = 600000;
    private static final int MOST_ELEMENTS = 7300000;
    private static final int MOST_CALLS = 512;

    /** Objects and arrays that can be reached, each once; answers how many fields and elements they have. */
    private static int elements(Object of, Set<Object> met) throws IllegalAccessException {
        if (of == null || of instanceof String || !met.add(of)) {
            return 0;
        }
        int n = 0;
        if (of.getClass().isArray()) {
            n = Array.getLength(of);
            Object[] row = of instanceof Object[] objects ? objects : new Object[0];
            for (Object o : row) {
                n += elements(o, met);
            }
            return n;
        }
        for (Field f : of.getClass().getDeclaredFields()) {
            if (!Modifier.isStatic(f.getModifiers())) {
                f.setAccessible(true);
                n += 1 + (f.getType().isPrimitive() ? 0 : elements(f.get(of), met));
            }
        }
        return n;
    }

    /** Calls make nothing but an exception, so a run has room if its object has. */
    private static void room() throws IllegalAccessException {
        Set<Object> met = Collections.newSetFromMap(new IdentityHashMap<>());
        int elements = elements(new FlashVault(2), met);
        due(met.size() + MOST_CALLS < MOST_OBJECTS / 100, "few objects: " + met.size());
        due(elements < MOST_ELEMENTS / 8, "few fields and elements: " + elements);
    }

    public static void main(String[] args) throws IOException, IllegalAccessException {
        List<String> files;
        Path classes = Path.of(System.getProperty("java.class.path"));
        try (Stream<Path> all = Files.list(classes)) {
            files = all.map(Path::toString).filter(f -> f.matches(".*/FlashVault(\\$\\w+)?\\.class")).sorted().toList();
        }
        read(disassembled(files));
        due(files.size() >= 2 && files.size() <= 12, "some twelve classes: " + files.size());
        due(calls.size() > 150, "the methods were found: " + calls.size());
        for (Map.Entry<String, Set<String>> e : calls.entrySet()) {
            e.getValue().forEach(called -> library(e.getKey(), called));
            int depth = depth(e.getKey(), new HashSet<>());
            due(depth <= DEEPEST, e.getKey() + " goes " + depth + " calls deep");
        }
        room();
        System.out.println(wrong == 0 ? "the class keeps to the language" : wrong + " things are not as due");
        if (wrong != 0) {
            System.exit(1);
        }
    }
}

import java.io.IOException;
import java.nio.file.Files;
import java.nio.file.Path;
import java.util.ArrayList;
import java.util.List;
import java.util.Map;
import java.util.Set;
import java.util.TreeMap;
import java.util.TreeSet;
import java.util.regex.Matcher;
import java.util.regex.Pattern;
import java.util.stream.Stream;

/**
 * Each sentence of 'What it is', of 'Terms' and of the promises, and each part of one between semicolons, is named by a
 * test of its boundary cases (src/test/java/Edge*Test.java); and what these tests name is in the document, where they
 * say. Of the document's other parts FaceTest looks at 'The public face'; 'Not promised' asks for nothing.
 */
public final class SentencesTest {
    private static final Path DOCUMENT = Path.of("../shared/DOC.md");
    private static final Path TESTS = Path.of("src/test/java");
    private static final Pattern NAMED = Pattern.compile("(TERMS|WHOLE|\"Promise \\d+\"),\\s*\"((?:[^\"\\\\]|\\\\.)*)\"");

    /** What tells of no case that a test could look at. */
    private static final List<String> WITHOUT_CASES = List.of(
            "All memory is the store's own.",
            "Nothing else of the CHIP can be told from outside, but by faults and check.",
            "MOMENTS are numbers.",
            "POWER.");

    /** The document's parts beside the promises. */
    private static final String WHOLE = "What it is";
    private static final String FACE = "The public face";
    private static final String TERMS = "Terms";
    private static final String NOT_PROMISED = "Not promised";
    private static final int PROMISES = 29;

    private static int wrong = 0;

    private static void tell(String what) {
        wrong++;
        System.out.println(what);
    }

    /** The text of each part of the document, by its heading, of a promise without its name. */
    private static Map<String, String> places() throws IOException {
        Map<String, String> places = new TreeMap<>();
        String document = Files.readString(DOCUMENT);
        String[] parts = document.split("(?m)^## ");
        for (int i = 1; i < parts.length; i++) {
            String heading = parts[i].substring(0, parts[i].indexOf('\n'));
            String text = parts[i].substring(heading.length()).replaceAll("```(text)?", "").replaceAll("`[^`]*`:", "");
            places.put(heading.replaceAll(": .*", ""), text.replaceAll("\\s+", " ").trim());
        }
        if (!parts[0].strip().equals("# FlashVault")) {
            tell("the document does not begin with its name alone");
        }
        return places;
    }

    private static Set<String> knownPlaces() {
        Set<String> known = new TreeSet<>(List.of(WHOLE, FACE, TERMS, NOT_PROMISED));
        for (int i = 1; i <= PROMISES; i++) {
            known.add("Promise " + i);
        }
        return known;
    }

    private static Map<String, List<String>> named() throws IOException {
        Map<String, List<String>> named = new TreeMap<>();
        try (Stream<Path> files = Files.list(TESTS)) {
            for (Path file : files.filter(f -> f.getFileName().toString().matches("Edge\\w*Test\\.java")).toList()) {
                Matcher m = NAMED.matcher(Files.readString(file));
                while (m.find()) {
                    String place = m.group(1).equals("TERMS") ? TERMS : m.group(1).equals("WHOLE") ? WHOLE : m.group(1).replace("\"", "");
                    named.computeIfAbsent(place, p -> new ArrayList<>()).add(m.group(2));
                }
            }
        }
        return named;
    }

    /** Whether the words lie within the sentence, or go over all of it. */
    private static boolean names(String text, int from, int to, String words) {
        for (int at = text.indexOf(words); at >= 0; at = text.indexOf(words, at + 1)) {
            int end = at + words.length();
            if (at >= from && end <= to || at <= from && end >= to - 1) {
                return true;
            }
        }
        return false;
    }

    private static int sentences(String place, String text, List<String> named) {
        for (String words : named) {
            if (!text.contains(words)) {
                tell(place + " does not say: " + words);
            }
        }
        int n = 0;
        int from = 0;
        Matcher m = Pattern.compile("(?<=[^.\\s]\\.)\\)?\\s+|;\\s+|\\z").matcher(text);
        while (m.find()) {
            int start = from;
            int end = m.start();
            String sentence = text.substring(start, end);
            if (!WITHOUT_CASES.contains(sentence) && named.stream().noneMatch(words -> names(text, start, end, words))) {
                tell(place + ", without a test of its boundary cases: " + sentence);
            }
            from = m.end();
            n++;
        }
        return n;
    }

    public static void main(String[] args) throws IOException {
        Map<String, String> places = places();
        Map<String, List<String>> named = named();
        if (!places.keySet().equals(knownPlaces()) || !places.keySet().containsAll(named.keySet())) {
            tell("the places are not those of the document: " + places.keySet() + ", " + named.keySet());
        }
        int n = 0;
        places.keySet().removeAll(List.of(FACE, NOT_PROMISED));
        for (Map.Entry<String, String> e : places.entrySet()) {
            n += sentences(e.getKey(), e.getValue(), named.getOrDefault(e.getKey(), List.of()));
        }
        System.out.println(wrong == 0 ? "all " + n + " sentences have tests" : wrong + " things are not as due");
        if (wrong != 0) {
            System.exit(1);
        }
    }
}

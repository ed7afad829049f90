import java.lang.reflect.Constructor;
import java.lang.reflect.Field;
import java.lang.reflect.Method;
import java.lang.reflect.Modifier;
import java.nio.file.Files;
import java.nio.file.Path;
import java.util.ArrayList;
import java.util.List;
import java.util.Set;
import java.util.TreeSet;
import java.util.regex.Matcher;
import java.util.regex.Pattern;

/** The face is the document's and no more, and the source keeps to those rules of the language that can be read off. */
public final class FaceTest {
    private static int wrong = 0;

    private static void due(boolean fine, String what) {
        if (!fine) {
            wrong++;
            System.out.println("not as due: " + what);
        }
    }

    private static Set<String> facesOf(String document) {
        Set<String> faces = new TreeSet<>();
        String code = document.substring(document.indexOf("public final class FlashVault {"));
        Matcher m = Pattern.compile("public (\\w+) (\\w+)\\(([^)]*)\\)(?: throws ([^;]*))?;").matcher(code.substring(0, code.indexOf("```")));
        while (m.find()) {
            Set<String> thrown = new TreeSet<>();
            for (String s : m.group(4) == null ? new String[0] : m.group(4).split(", ")) {
                thrown.add(s.replaceAll(".*\\.", ""));
            }
            faces.add(m.group(1) + " " + m.group(2) + "(" + m.group(3).replaceAll("(\\w+) \\w+", "$1") + ") " + thrown);
        }
        return faces;
    }

    private static String faceOf(Method m) {
        List<String> types = new ArrayList<>();
        for (Class<?> c : m.getParameterTypes()) {
            types.add(c.getName());
        }
        Set<String> thrown = new TreeSet<>();
        for (Class<?> c : m.getExceptionTypes()) {
            thrown.add(c.getSimpleName());
        }
        return m.getReturnType() + " " + m.getName() + "(" + String.join(", ", types) + ") " + thrown;
    }

    private static void face(String document) {
        Class<?> c = FlashVault.class;
        due(c.getModifiers() == (Modifier.PUBLIC | Modifier.FINAL), "the class is public and final");
        Set<String> faces = new TreeSet<>();
        Set<String> names = new TreeSet<>();
        for (Method m : c.getDeclaredMethods()) {
            if (!Modifier.isPrivate(m.getModifiers())) {
                due(m.getModifiers() == Modifier.PUBLIC, m + " is public");
                faces.add(faceOf(m));
                names.add(m.getName());
            }
        }
        due(faces.equals(facesOf(document)) && faces.size() == 28, "the methods: " + faces + " and " + facesOf(document));
        Constructor<?>[] constructors = c.getDeclaredConstructors();
        due(constructors.length == 1 && constructors[0].getParameterCount() == 1 && Modifier.isPublic(constructors[0].getModifiers()), "one constructor");
        fields(c);
        due(c.getDeclaredClasses().length <= 12, "at most twelve classes");
        for (Class<?> inner : c.getDeclaredClasses()) {
            due(Modifier.isStatic(inner.getModifiers()) && !Modifier.isPublic(inner.getModifiers()), inner + " is static and not public");
            fields(inner);
            for (Method m : inner.getDeclaredMethods()) {
                due(!names.contains(m.getName()), m + " has a name of its own");
                due(m.getParameterCount() <= 7, m + " has at most seven parameters");
            }
        }
        for (Method m : c.getDeclaredMethods()) {
            due(Modifier.isPublic(m.getModifiers()) || !names.contains(m.getName()), m + " has a name of its own");
        }
    }

    private static void fields(Class<?> c) {
        int own = 0;
        for (Field f : c.getDeclaredFields()) {
            boolean constant = Modifier.isStatic(f.getModifiers());
            own += constant ? 0 : 1;
            due(!constant || Modifier.isFinal(f.getModifiers()), f + " is final");
            due(c != FlashVault.class || Modifier.isPrivate(f.getModifiers()), f + " is private");
        }
        due(own <= 20, c + " has at most twenty fields");
    }

    private static final String[] FORBIDDEN = {
        "->", "::", "finally", "synchronized", "assert ", "System.out", "System.nano", "System.current", "Random", "Thread",
        "getMessage", "hashCode", "Exact(", "instanceof", "RuntimeException", "catch (Exception", "catch (Throwable",
        "catch (IndexOutOfBounds", "catch (Arithmetic", "catch (NullPointer", "Math.random", "public static", "protected ", "[][]",
    };

    private static void source(String text) {
        String code = text.replaceAll("(?s)/\\*.*?\\*/", "").replaceAll("//.*", "");
        for (String s : FORBIDDEN) {
            due(!code.contains(s), "no " + s);
        }
        for (String line : code.split("\n")) {
            if (line.startsWith("import ")) {
                due(line.equals("import java.util.Arrays;") || line.equals("import java.util.NoSuchElementException;"), line);
            }
            if (line.contains("throw new")) {
                due(line.matches("\\s*throw new \\w+\\(\"[^\"]*\"\\);"), line);
            }
        }
        // a method ends where its closing brace stands under its head
        Matcher m = Pattern.compile("(?m)^( {4}| {8})(\\S[^\\n=;]*\\)[^\\n=;]*\\{)\\n((?:.*\\n)*?)\\1\\}").matcher(code);
        int methods = 0;
        while (m.find()) {
            methods++;
            String body = m.group(3);
            due(body.split("\n").length <= 60, m.group(2) + " is short");
            due(!(body.contains("throw new") && body.contains("catch (")), m.group(2) + " catches or throws");
        }
        due(methods > 100, "methods were found");
    }

    public static void main(String[] args) throws Exception {
        face(Files.readString(Path.of("../shared/DOC.md")));
        source(Files.readString(Path.of("src/main/java/FlashVault.java")));
        System.out.println(wrong == 0 ? "the face is the document's" : wrong + " things are not as due");
        if (wrong != 0) {
            System.exit(1);
        }
    }
}

import java.io.IOException;
import java.lang.reflect.Constructor;
import java.lang.reflect.Field;
import java.lang.reflect.Method;
import java.lang.reflect.Modifier;
import java.nio.file.Files;
import java.nio.file.Path;
import java.util.ArrayList;
import java.util.List;
import java.util.Set;
import java.util.TreeSet;
import java.util.regex.Pattern;

/** The face is the document's and no more (LANGUAGE.md rule 1), and what rules 2 to 6 forbid is not in the file. */
public final class FaceTest {
    private static final String[] FORBIDDEN = {
        "->", "::", "\\w+Exact\\(", "Double\\.", "Float\\.", "System\\.(?!arraycopy)", "synchronized", "assert ",
        "finally", "static final (double|float)", "catch \\(", "@", "import (?!java\\.util\\.(Arrays|NoSuchElementException);)",
        "package ", "\\blocal\\b", "var ", "hashCode", "toString\\("};
    private static int wrong = 0;

    public static void main(String[] args) throws IOException {
        List<String> face = faceOfDocument();
        asWritten(face);
        methods(face);
        fieldsAndConstructors();
        nestedClasses();
        forbiddenWords();
        System.out.println(wrong == 0 ? "the face is as due" : wrong + " faults of form");
        if (wrong != 0) {
            System.exit(1);
        }
    }

    private static void fault(String text) {
        wrong++;
        System.out.println(text);
    }

    /** The lines of the document's face, from the class's first one to its last. */
    private static List<String> faceOfDocument() throws IOException {
        String all = Files.readString(Path.of("../shared/DOC.md"));
        int start = all.indexOf("public final class PayPromise {");
        int end = all.indexOf("\n}\n", Math.max(start, 0));
        if (start < 0 || end < 0) {
            throw new IllegalStateException("the document has no face");
        }
        return List.of(all.substring(start, end).split("\n"));
    }

    /** Each line of the face stands in the file as it is, with the names of its parameters and what it throws. */
    private static void asWritten(List<String> face) throws IOException {
        List<String> lines = Files.readAllLines(Path.of("src/main/java/PayPromise.java"));
        for (String line : face) {
            if (!lines.contains(line.endsWith(");") || line.endsWith("Exception;") ? line.replace(";", " {") : line)) {
                fault("not in the file as in the document: " + line);
            }
        }
    }

    /** A method's line of the face as told(Method) tells it. */
    private static String told(String line) {
        return line.replaceAll("^ *public ", "").replaceAll("(int|long) \\w+([,)])", "$1$2").replaceAll(", ", ",")
            .replaceAll("\\).*", ")");
    }

    private static String told(Method m) {
        List<String> types = new ArrayList<>();
        for (Class<?> type : m.getParameterTypes()) {
            types.add(type.getName());
        }
        return m.getReturnType().getName() + " " + m.getName() + "(" + String.join(",", types) + ")";
    }

    private static void methods(List<String> face) {
        Set<String> due = new TreeSet<>();
        for (String line : face) {
            if (line.contains("(") && !line.contains("public PayPromise(")) {
                due.add(told(line));
            }
        }
        if (due.size() != 46) {
            fault("the document's face is read wrongly: " + due);
        }
        Set<String> names = new TreeSet<>();
        Set<String> open = new TreeSet<>();
        for (Method m : PayPromise.class.getDeclaredMethods()) {
            if (Modifier.isPublic(m.getModifiers()) && !Modifier.isStatic(m.getModifiers())) {
                open.add(told(m));
                names.add(m.getName());
            } else if (!Modifier.isPrivate(m.getModifiers())) {
                fault("not private: " + m);
            }
        }
        if (!open.equals(due)) {
            fault("public methods: " + open);
        }
        List<Class<?>> all = new ArrayList<>(List.of(PayPromise.class.getDeclaredClasses()));
        all.add(PayPromise.class);
        for (Class<?> type : all) {
            for (Method m : type.getDeclaredMethods()) {
                if (!Modifier.isPublic(m.getModifiers()) && names.contains(m.getName())) {
                    fault("bears a public name: " + m);
                }
                if (m.getParameterCount() > 7) {
                    fault("too many parameters: " + m);
                }
            }
        }
    }

    private static void fieldsAndConstructors() {
        if (!Modifier.isFinal(PayPromise.class.getModifiers())) {
            fault("not final");
        }
        Set<String> open = new TreeSet<>();
        for (Field f : PayPromise.class.getDeclaredFields()) {
            if (!Modifier.isPrivate(f.getModifiers())) {
                open.add(f.toString());
            }
        }
        if (!open.equals(Set.of("public static final int PayPromise.NONE", "public static final long PayPromise.HIDDEN"))) {
            fault("open fields: " + open);
        }
        Constructor<?>[] made = PayPromise.class.getDeclaredConstructors();
        if (made.length != 1 || !Modifier.isPublic(made[0].getModifiers()) || made[0].getParameterCount() != 0) {
            fault("constructors");
        }
    }

    private static void nestedClasses() {
        if (PayPromise.class.getDeclaredClasses().length > 11) {
            fault("too many classes");
        }
        for (Class<?> type : PayPromise.class.getDeclaredClasses()) {
            if (!Modifier.isStatic(type.getModifiers()) || Modifier.isPublic(type.getModifiers())) {
                fault("not a static nested class: " + type);
            }
            for (Field f : type.getDeclaredFields()) {
                boolean isStatic = Modifier.isStatic(f.getModifiers());
                if (isStatic && (!Modifier.isFinal(f.getModifiers())
                    || !Set.of("int", "long", "boolean", "char").contains(f.getType().getName()))) {
                    fault("static state: " + f);
                }
            }
        }
    }

    private static void forbiddenWords() throws IOException {
        String source = Files.readString(Path.of("src/main/java/PayPromise.java"));
        String code = source.replaceAll("(?s)/\\*.*?\\*/", "").replaceAll("//.*", "");
        for (String word : FORBIDDEN) {
            if (Pattern.compile(word).matcher(code).find()) {
                fault("in the file: " + word);
            }
        }
    }
}

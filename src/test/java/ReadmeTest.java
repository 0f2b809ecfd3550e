import java.io.IOException;
import java.lang.reflect.InvocationTargetException;
import java.lang.reflect.Method;
import java.lang.reflect.Modifier;
import java.net.URL;
import java.net.URLClassLoader;
import java.nio.file.Files;
import java.nio.file.Path;
import java.util.ArrayList;
import java.util.List;
import java.util.regex.Matcher;
import java.util.regex.Pattern;
import javax.tools.JavaCompiler;
import javax.tools.ToolProvider;

/**
 * The Java of README.md, compiled and run as it stands there: each call must answer what the page says behind it.
 * All blocks are one program; one that begins with static is a method of it, the others are its lines.
 */
public final class ReadmeTest {
    private static final String NAME = "ReadmeExample";
    private static final String THROWS = "throws ";
    private static final Pattern MADE = Pattern.compile("PayPromise \\w+ = new PayPromise\\(\\);");
    private static final Pattern ANSWERED = Pattern.compile("(\\S.*);\\s+// ([^:]+)(: .*)?");
    private static final Pattern NAMED = Pattern.compile("(\\d+) `(\\w+)\\(([^)]*)\\)`");
    private static int answers = 0;

    public static void main(String[] args) throws IOException, ReflectiveOperationException {
        List<String> page = Files.readAllLines(Path.of("README.md"));
        namesEveryCall(String.join("\n", page));
        String program = programOf(page);
        if (answers == 0) {
            Check.fail("README.md: no call with its answer");
        }
        Path place = Files.createTempDirectory("readme");
        try {
            if (compile(place, program)) {
                run(place);
            }
        } finally {
            for (String end : new String[] {".java", ".class"}) {
                Files.deleteIfExists(place.resolve(NAME + end));
            }
            Files.delete(place);
        }
        Check.finish(answers + " calls answer as README.md says");
    }

    /** Called by the program made from the page. */
    public static void answered(int line, String call, String got, String said) {
        String due = said.equals("NONE") ? "-1" : said.equals("NONE - 1") ? "-2"
            : said.equals("HIDDEN") ? Long.toString(Check.HIDDEN) : said;
        if (!got.equals(due)) {
            Check.fail("README.md, line " + line + ": " + call + " answered " + got + ", the page says " + said);
        }
    }

    /** The table of all calls has each one once, with the number of its promise and with its parameters' names. */
    private static void namesEveryCall(String page) throws IOException {
        String document = Files.readString(Path.of("../shared/DOC.md"));
        List<String> named = new ArrayList<>();
        Matcher call = NAMED.matcher(page);
        while (call.find()) {
            named.add(call.group(2));
            Matcher promise = Pattern.compile("## Promise " + call.group(1) + ": " + call.group(2) + "\n\n`\\w+ \\w+\\(([^)]*)\\)")
                .matcher(document);
            if (!promise.find() || !promise.group(1).replaceAll("(int|long) ", "").equals(call.group(3))) {
                Check.fail("README.md: not a promise of the document: " + call.group());
            }
        }
        for (Method m : PayPromise.class.getDeclaredMethods()) {
            if (Modifier.isPublic(m.getModifiers()) && !named.remove(m.getName())) {
                Check.fail("README.md does not name the call " + m.getName());
            }
        }
        if (!named.isEmpty()) {
            Check.fail("README.md names these calls more than once: " + named);
        }
    }

    private static String programOf(List<String> page) {
        StringBuilder methods = new StringBuilder();
        StringBuilder lines = new StringBuilder();
        for (int i = 0; i < page.size(); i++) {
            if (!page.get(i).equals("```java")) {
                continue;
            }
            boolean isMethod = i + 1 < page.size() && page.get(i + 1).startsWith("static ");
            for (i++; i < page.size() && !page.get(i).equals("```"); i++) {
                if (isMethod) {
                    methods.append(page.get(i)).append('\n');
                } else {
                    lines.append(lineOf(i + 1, page.get(i))).append('\n');
                }
            }
        }
        return "public final class " + NAME + " {\n" + methods + "public static void run() {\n" + lines + "}\n}\n";
    }

    private static String lineOf(int number, String line) {
        Matcher call = ANSWERED.matcher(line);
        if (MADE.matcher(line).matches()) {
            return line;
        }
        if (!call.matches()) {
            Check.fail("README.md, line " + number + ": a call without an answer: " + line);
            return "";
        }
        answers++;
        String told = "ReadmeTest.answered(" + number + ", " + quoted(call.group(1)) + ", ";
        String said = quoted(call.group(2)) + ");";
        if (!call.group(2).startsWith(THROWS)) {
            return told + "String.valueOf(" + call.group(1) + "), " + said;
        }
        String name = call.group(2).substring(THROWS.length());
        return "try { " + told + "String.valueOf(" + call.group(1) + "), " + said + " } catch (RuntimeException e) { "
            + told + quoted(THROWS) + " + e.getClass().getSimpleName(), " + quoted(THROWS + name) + "); }";
    }

    private static String quoted(String text) {
        return "\"" + text.replace("\\", "\\\\").replace("\"", "\\\"") + "\"";
    }

    private static boolean compile(Path place, String program) throws IOException {
        JavaCompiler javac = ToolProvider.getSystemJavaCompiler();
        if (javac == null) {
            Check.fail("README.md: there is no compiler for its example");
            return false;
        }
        Path file = place.resolve(NAME + ".java");
        Files.writeString(file, program);
        String known = System.getProperty("java.class.path");
        if (javac.run(null, null, null, "-cp", known, "-d", place.toString(), file.toString()) != 0) {
            Check.fail("README.md: its example does not compile");
            return false;
        }
        return true;
    }

    private static void run(Path place) throws IOException, ReflectiveOperationException {
        try (URLClassLoader loader = new URLClassLoader(new URL[] {place.toUri().toURL()})) {
            loader.loadClass(NAME).getMethod("run").invoke(null);
        } catch (InvocationTargetException e) {
            Check.fail("README.md: its example throws " + e.getCause());
        }
    }
}

import java.io.IOException;
import java.lang.reflect.InvocationTargetException;
import java.net.URL;
import java.net.URLClassLoader;
import java.nio.file.Files;
import java.nio.file.Path;
import java.util.Comparator;
import java.util.List;
import java.util.Set;
import java.util.TreeSet;
import java.util.regex.Matcher;
import java.util.regex.Pattern;
import java.util.stream.Stream;
import javax.tools.ToolProvider;

/**
 * What README.md tells of the class must be so: its example is compiled and run, and each answer in it looked at; the
 * calls that it lists are those of the document's face. Arguments: the project's folder, DOC.md's folder.
 */
public final class ReadmeTest {
    private static final int CALLS = 48;
    private static final int REFUSALS = 5;
    /** A call with what it answers behind it. */
    private static final Pattern ANSWERED = Pattern.compile("(?m)^ +((?:desk\\.\\w+|read)\\(.*\\)); +// (-?\\d+)\\b.*$");

    private static int asked = 0;
    private static int wrong = 0;

    public static void main(String[] args) throws IOException, ReflectiveOperationException {
        Path project = Path.of(args.length > 0 ? args[0] : ".");
        Path shared = Path.of(args.length > 1 ? args[1] : "../shared");
        String readme = Files.readString(project.resolve("README.md"));
        String document = Files.readString(shared.resolve("DOC.md"));
        lookAtExample(readme);
        lookAtCalls(readme, document);
        lookAtRefusals(readme, document);
        lookAtTests(readme, project);
        System.out.println(asked + " things that the readme tells looked at, " + wrong + " not so");
        if (wrong != 0) {
            System.exit(1);
        }
    }

    /** Called by the example, too. */
    public static void due(String what, Object is, Object due) {
        asked++;
        if (!is.equals(due)) {
            wrong++;
            System.out.println(what + ": it is " + is + ", the readme tells " + due);
        }
    }

    private static void lookAtExample(String readme) throws IOException, ReflectiveOperationException {
        String example = between(readme, "```java\n", "```");
        Matcher m = ANSWERED.matcher(example);
        StringBuilder checked = new StringBuilder();
        int answers = 0;
        while (m.find()) {
            answers++;
            String text = m.group(1).replace("\\", "\\\\").replace("\"", "\\\"");
            String check = "ReadmeTest.due(\"" + text + "\", (long) " + m.group(1) + ", " + m.group(2) + "L);";
            m.appendReplacement(checked, Matcher.quoteReplacement(check));
        }
        m.appendTail(checked);
        due("lines of the example that call something", Pattern.compile("(?m)^ +(desk\\.\\w+|read)\\(.*// ").matcher(example)
                .results().count(), (long) answers);
        due("that the example calls something", answers > 0, true);
        run(checked.toString());
    }

    private static void run(String source) throws IOException, ReflectiveOperationException {
        Path folder = Files.createTempDirectory("readme");
        try {
            Path file = Files.writeString(folder.resolve("Example.java"), source);
            String path = System.getProperty("java.class.path");
            int failed = ToolProvider.getSystemJavaCompiler().run(null, null, null, "--release", "17", "-cp", path, "-d",
                    folder.toString(), file.toString());
            due("how javac ends with the example", failed, 0);
            if (failed == 0) {
                start(folder);
            }
        } finally {
            try (Stream<Path> all = Files.walk(folder)) {
                for (Path path : all.sorted(Comparator.reverseOrder()).toList()) {
                    Files.delete(path);
                }
            }
        }
    }

    private static void start(Path folder) throws IOException, ReflectiveOperationException {
        try (URLClassLoader loader = new URLClassLoader(new URL[] {folder.toUri().toURL()})) {
            loader.loadClass("Example").getMethod("main", String[].class).invoke(null, (Object) new String[0]);
        } catch (InvocationTargetException e) {
            due("what the example throws", e.getCause().toString(), "nothing");
        }
    }

    /** Its tables list each call of the face, with the names that the document has for what is told. */
    private static void lookAtCalls(String readme, String document) {
        Set<String> face = found(between(document, "```java\n", "```"), "public (?:int|long) (\\w+\\([^()]*\\));");
        Set<String> due = new TreeSet<>();
        for (String call : face) {
            due.add(call.replaceAll("(int|long) ", ""));
        }
        due("how many calls the document has", due.size(), CALLS);
        due("the calls that are listed", found(readme, "(?m)^\\| `(\\w+\\([^()]*\\))` \\|"), due);
    }

    private static void lookAtRefusals(String readme, String document) {
        String told = between(document, "REFUSALS (", "\n");
        Set<String> due = found(told, "(-3\\d [A-Z]+)");
        due("how many refusals the document has", due.size(), REFUSALS);
        Set<String> listed = new TreeSet<>();
        for (String row : found(readme, "(?m)^\\| (-3\\d \\| [A-Z]+) \\|")) {
            listed.add(row.replace("| ", ""));
        }
        due("the refusals that are listed", listed, due);
    }

    private static void lookAtTests(String readme, Path project) throws IOException {
        Set<String> due = new TreeSet<>();
        try (Stream<Path> files = Files.list(project.resolve("src/test/java"))) {
            for (Path file : files.toList()) {
                String name = file.getFileName().toString().replace(".java", "");
                if (name.endsWith("Test")) {
                    due.add(name);
                }
            }
        }
        due("the tests that are listed", found(readme, "(?m)^\\| `(\\w+Test)` \\|"), due);
    }

    private static Set<String> found(String text, String pattern) {
        List<String> all = Pattern.compile(pattern).matcher(text).results().map(r -> r.group(1)).toList();
        Set<String> once = new TreeSet<>(all);
        due("how many of " + once + " stand there once", all.size(), once.size());
        return once;
    }

    private static String between(String text, String start, String end) {
        int from = text.indexOf(start);
        int to = from < 0 ? -1 : text.indexOf(end, from + start.length());
        if (to < 0) {
            throw new IllegalStateException("no " + start.trim() + " with an end");
        }
        return text.substring(from + start.length(), to);
    }
}

import java.lang.reflect.Method;
import java.lang.reflect.Modifier;
import java.net.URL;
import java.net.URLClassLoader;
import java.nio.file.Files;
import java.nio.file.Path;
import java.util.ArrayList;
import java.util.List;
import java.util.Set;
import java.util.TreeSet;
import java.util.regex.Matcher;
import java.util.regex.Pattern;
import java.util.stream.Stream;
import javax.tools.ToolProvider;

/** README.md: each line of its example does what stands beside it, and it names every call and every test. */
public final class ReadmeTest {
    // A statement and, beside it, the answer that is due, which ends at a colon or at the line's end.
    private static final Pattern ANSWERING = Pattern.compile("(?:int (\\w+) = )?(sums\\..+?); +// ([^ :]+)(?::.*)?");
    private static final Pattern BEGINNING =
        Pattern.compile("(StreamSums sums = new .+?;|sums\\.begin.+?;) +// no bytes.*");

    public static void main(String[] args) throws Exception {
        String page = Files.readString(Path.of("README.md"));
        String example = example(page);
        namesEachCall(page, example);
        namesEachTest(page);
        linesDoWhatTheySay(example);
        Checks.end();
    }

    private static String example(String page) {
        Matcher found = Pattern.compile("(?s)```java\n(.*?)```").matcher(page);
        Checks.due("README.md has an example", found.find(), true);
        String example = found.group(1);
        Checks.due("README.md has a second example", found.find(), false);
        return example;
    }

    private static void namesEachCall(String page, String example) {
        Set<String> called = new TreeSet<>();
        for (Method method : StreamSums.class.getDeclaredMethods()) {
            if (Modifier.isPublic(method.getModifiers())) {
                called.add(method.getReturnType() + " " + method.getName());
                Checks.due("the example calls " + method.getName(),
                    example.contains("sums." + method.getName() + "("), true);
            }
        }
        Set<String> told = new TreeSet<>();
        Matcher row = Pattern.compile("(?m)^\\| `(\\w+ \\w+)\\(").matcher(page);
        while (row.find()) {
            told.add(row.group(1));
        }
        told.remove("new StreamSums");
        Checks.due("the table has the calls of the face: " + told, told.equals(called), true);
    }

    private static void namesEachTest(String page) throws Exception {
        Set<String> files = new TreeSet<>();
        try (Stream<Path> all = Files.list(Path.of("src/test/java"))) {
            all.map(file -> file.getFileName().toString()).filter(name -> name.endsWith("Test.java"))
                .forEach(name -> files.add(name.replace(".java", "")));
        }
        Set<String> told = new TreeSet<>();
        Matcher item = Pattern.compile("(?m)^- `(\\w+Test)`").matcher(page);
        while (item.find()) {
            told.add(item.group(1));
        }
        Checks.due("the list has the tests that there are: " + told, told.equals(files), true);
    }

    private static void linesDoWhatTheySay(String example) throws Exception {
        List<String> lines = new ArrayList<>();
        StringBuilder body = new StringBuilder();
        for (String line : example.split("\n")) {
            if (!line.isBlank()) {
                lines.add(line);
                body.append(checked(line));
            }
        }
        List<long[]> answers = answers(body.toString());
        Checks.due("lines that were looked at", answers.size(), lines.size());
        for (int i = 0; i < answers.size(); i++) {
            Checks.due("README.md: " + lines.get(i), answers.get(i)[0], answers.get(i)[1]);
        }
    }

    /** The line as code, then the call by which it tells what was answered and what is due. */
    private static String checked(String line) {
        Matcher answering = ANSWERING.matcher(line);
        if (answering.matches()) {
            String name = answering.group(1);
            String call = answering.group(2);
            String due = answering.group(3);
            return name == null
                ? "told(" + call + ", " + due + ");\n"
                : "int " + name + " = " + call + "; told(" + name + ", " + due + ");\n";
        }
        Matcher beginning = BEGINNING.matcher(line);
        boolean known = beginning.matches();
        Checks.due("README.md says what this line does: " + line, known, true);
        return known ? beginning.group(1) + " told(sums.size(), 0);\n" : "";
    }

    private static List<long[]> answers(String body) throws Exception {
        Path folder = Files.createTempDirectory("readme");
        Path source = folder.resolve("ReadmeExample.java");
        try {
            Files.writeString(source, code(body));
            int exit = ToolProvider.getSystemJavaCompiler().run(null, null, null,
                "-cp", System.getProperty("java.class.path"), "-d", folder.toString(), source.toString());
            Checks.due("the compiler's exit on the example", exit, 0);
            return exit == 0 ? run(folder) : List.of();
        } finally {
            Files.deleteIfExists(folder.resolve("ReadmeExample.class"));
            Files.deleteIfExists(source);
            Files.deleteIfExists(folder);
        }
    }

    private static String code(String body) {
        return "import java.util.ArrayList;\nimport java.util.List;\n"
            + "public final class ReadmeExample {\n"
            + "private static final List<long[]> ANSWERS = new ArrayList<>();\n"
            + "public static List<long[]> run() {\n" + body + "return ANSWERS;\n}\n"
            + "private static void told(long got, long due) { ANSWERS.add(new long[] {got, due}); }\n"
            + "private static void told(boolean got, boolean due) { told(got ? 1L : 0L, due ? 1L : 0L); }\n"
            + "}\n";
    }

    @SuppressWarnings("unchecked")
    private static List<long[]> run(Path folder) throws Exception {
        URL[] places = {folder.toUri().toURL()};
        try (URLClassLoader loader = new URLClassLoader(places, ReadmeTest.class.getClassLoader())) {
            return (List<long[]>) loader.loadClass("ReadmeExample").getMethod("run").invoke(null);
        }
    }
}

import java.io.IOException;
import java.io.UncheckedIOException;
import java.lang.reflect.Method;
import java.lang.reflect.Modifier;
import java.net.URL;
import java.net.URLClassLoader;
import java.nio.file.Files;
import java.nio.file.Path;
import java.util.ArrayList;
import java.util.HashMap;
import java.util.List;
import java.util.Map;
import java.util.Set;
import java.util.TreeSet;
import java.util.regex.Matcher;
import java.util.regex.Pattern;
import java.util.stream.Stream;
import javax.tools.ToolProvider;

/** What README.md says is so when it is tried: its example, its tables of calls, its list of tests. */
final class ReadmeTest {
    private static final Path TESTS = Path.of("src/test/java");
    private static final Pattern ANSWER = Pattern.compile("\\s*(?:int|long|boolean) (\\w+) = .*;\\s*// (-?\\w+).*");
    private static final Pattern CALL = Pattern.compile("\\| `(\\w+)\\(([^)]*)\\)` \\|[^|]*\\|([^|]*)\\|");
    private static final Pattern TEST = Pattern.compile("\\| `(\\w+Test)` \\|.*");
    private static final Map<Class<?>, String> WORDS = Map.of(IndexOutOfBoundsException.class, "index",
        IllegalArgumentException.class, "argument", IllegalStateException.class, "state");

    public static void main(String[] args) throws Exception {
        List<String> page = Files.readAllLines(Path.of("README.md"));
        exampleAnswersAsItSays(page);
        tablesAreTheFace(page);
        testsAreThoseThereAre(page);
        Check.end();
    }

    private static void exampleAnswersAsItSays(List<String> page) throws Exception {
        int begin = page.indexOf("```java");
        List<String> example = page.subList(begin + 1, begin + page.subList(begin, page.size()).indexOf("```"));
        List<String> due = new ArrayList<>();
        StringBuilder source = new StringBuilder("public final class Example {\n"
            + "public static java.util.List<String> run() {\njava.util.List<String> answers = new java.util.ArrayList<>();\n");
        for (String line : example) {
            source.append(line).append('\n');
            Matcher answer = ANSWER.matcher(line);
            if (answer.matches()) {
                due.add(answer.group(1) + " " + answer.group(2));
                source.append("answers.add(\"" + answer.group(1) + " \" + " + answer.group(1) + ");\n");
            }
        }
        source.append("return answers;\n}\n}\n");
        Check.due("answers in the example", due.size() >= 10, true);
        List<String> got = answersOf(source.toString());
        Check.due("the example, " + got + " instead of " + due, got.equals(due), true);
    }

    private static List<String> answersOf(String source) throws Exception {
        Path made = Files.createTempDirectory("readme");
        try {
            Path file = Files.writeString(made.resolve("Example.java"), source);
            int code = ToolProvider.getSystemJavaCompiler().run(null, null, null,
                "-cp", System.getProperty("java.class.path"), "-d", made.toString(), file.toString());
            Check.due("the example is compiled with exit code", code, 0);
            if (code != 0) {
                return List.of();
            }
            try (URLClassLoader loader = new URLClassLoader(new URL[] {made.toUri().toURL()})) {
                Object answers = loader.loadClass("Example").getMethod("run").invoke(null);
                return ((List<?>) answers).stream().map(String::valueOf).toList();
            }
        } finally {
            delete(made);
        }
    }

    private static void delete(Path made) throws IOException {
        try (Stream<Path> files = Files.list(made)) {
            files.forEach(file -> file.toFile().delete());
        }
        Files.delete(made);
    }

    /** A row as the face has it: its name, how many arguments it takes, and the words for what it throws. */
    private static String rowOf(Method method) {
        List<String> thrown = new ArrayList<>();
        for (Class<?> kind : method.getExceptionTypes()) {
            thrown.add(WORDS.getOrDefault(kind, kind.getName()));
        }
        return method.getName() + " " + method.getParameterCount() + " " + thrown;
    }

    private static void tablesAreTheFace(List<String> page) {
        Map<String, String> rows = new HashMap<>();
        for (String line : page) {
            Matcher row = CALL.matcher(line);
            if (row.matches()) {
                int count = row.group(2).isEmpty() ? 0 : row.group(2).split(", ").length;
                String told = row.group(1) + " " + count + " " + thrownBy(row.group(3));
                Check.due("rows of " + row.group(1) + " before", rows.put(row.group(1), told) != null, false);
            }
        }
        for (Method method : NightValley.class.getDeclaredMethods()) {
            if (Modifier.isPublic(method.getModifiers())) {
                String told = rows.remove(method.getName());
                Check.due(rowOf(method) + " is told as " + told, rowOf(method).equals(told), true);
            }
        }
        Check.due("no such calls: " + rows.keySet(), rows.size(), 0);
    }

    /** Each word as it is told; what stands in brackets, or behind a colon, says only when. */
    private static List<String> thrownBy(String cell) {
        String bare = cell.replaceAll("\\([^)]*\\)", "").replaceAll(":.*", "").trim();
        List<String> words = new ArrayList<>();
        for (String word : bare.split(",")) {
            if (!word.isBlank()) {
                words.add(word.trim());
            }
        }
        return words;
    }

    private static void testsAreThoseThereAre(List<String> page) {
        Set<String> told = new TreeSet<>();
        for (String line : page) {
            Matcher row = TEST.matcher(line);
            if (row.matches()) {
                Check.due(row.group(1) + " is told once", told.add(row.group(1)), true);
            }
        }
        Set<String> there = new TreeSet<>();
        try (Stream<Path> files = Files.list(TESTS)) {
            files.map(file -> file.getFileName().toString()).filter(name -> name.endsWith("Test.java"))
                .forEach(name -> there.add(name.substring(0, name.length() - 5)));
        } catch (IOException thrown) {
            throw new UncheckedIOException(thrown);
        }
        Check.due("tests told " + told + ", there are " + there, told.equals(there), true);
    }
}

import java.io.IOException;
import java.lang.reflect.Method;
import java.nio.file.Files;
import java.nio.file.Path;
import java.util.ArrayList;
import java.util.List;
import java.util.Map;
import java.util.TreeMap;

/**
 * Holds the names of the tests of edges against the document: each sentence that a test names stands in it, and each
 * line of a promise that tells a range, an answer or an exception, and each sentence of its Terms, has a test.
 */
final class QuotesTest {
    private static final Class<?>[] TESTS = {ValleyEdgesTest.class, VillageEdgesTest.class, LampEdgesTest.class,
        VoteEdgesTest.class, MeterEdgesTest.class, LabelEdgesTest.class, SatelliteEdgesTest.class, BurnsEdgesTest.class,
        SkyEdgesTest.class, GroundEdgesTest.class, PlanEdgesTest.class, OrderEdgesTest.class, RefusedEdgesTest.class};
    /** Sentences of Terms that name no boundary, or that each promise says again where it throws. */
    private static final List<String> WITHOUT_A_TEST = List.of("All numbers are whole.",
        "IndexOutOfBoundsException: there is no such PLACE, ZONE, village, lamp, meter or READING.",
        "IllegalArgumentException: another argument is out of its range.", "IllegalStateException: as the method tells.");

    private static final Map<Integer, String> PROMISES = new TreeMap<>();
    private static final Map<Integer, List<String>> QUOTES = new TreeMap<>();
    private static String document = "";
    private static String shared = "";

    public static void main(String[] args) throws IOException {
        Path path = Path.of(System.getProperty("shared", "../shared"), "DOC.md");
        if (!Files.exists(path)) {
            System.out.println("QuotesTest: no document at " + path + ", so no name of a test is held against it");
            return;
        }
        readDocument(path);
        readTests();
        quotesStandInTheDocument();
        linesOfPromisesHaveTests();
        termsHaveTests();
        Check.end();
    }

    private static String flat(String text) {
        return text.replaceAll("\\s+", " ").trim();
    }

    private static void readDocument(Path path) throws IOException {
        document = Files.readString(path);
        String[] parts = document.split("\n## ");
        for (String part : parts) {
            if (part.startsWith("Promise ")) {
                PROMISES.put(Integer.valueOf(part.substring(8, part.indexOf(':'))), part);
            } else {
                shared += part;
            }
        }
        Check.due("promises", PROMISES.size(), 33);
    }

    private static void readTests() {
        for (Class<?> tests : TESTS) {
            for (Method method : tests.getDeclaredMethods()) {
                Holds holds = method.getAnnotation(Holds.class);
                if (holds != null) {
                    for (int promise : holds.promise()) {
                        QUOTES.computeIfAbsent(promise, key -> new ArrayList<>()).addAll(List.of(holds.sentence()));
                    }
                }
            }
        }
    }

    private static void quotesStandInTheDocument() {
        String terms = flat(shared);
        for (Map.Entry<Integer, List<String>> entry : QUOTES.entrySet()) {
            String section = flat(PROMISES.getOrDefault(entry.getKey(), ""));
            for (String quote : entry.getValue()) {
                boolean stands = section.contains(flat(quote)) || terms.contains(flat(quote));
                Check.due("promise " + entry.getKey() + ", \"" + quote + "\" stands in the document", stands, true);
            }
        }
    }

    private static boolean isQuoted(String sentence, List<String> quotes) {
        String text = flat(sentence);
        for (String quote : quotes) {
            if (text.contains(flat(quote)) || flat(quote).contains(text)) {
                return true;
            }
        }
        return false;
    }

    private static void linesOfPromisesHaveTests() {
        for (Map.Entry<Integer, String> entry : PROMISES.entrySet()) {
            List<String> quotes = QUOTES.getOrDefault(entry.getKey(), List.of());
            for (String line : entry.getValue().split("\n")) {
                if (line.startsWith("- ") || line.startsWith("Throws ") || line.startsWith("Returns ")) {
                    String sentence = line.startsWith("- ") ? line.substring(2) : line;
                    Check.due("promise " + entry.getKey() + ", \"" + line + "\" has a test", isQuoted(sentence, quotes), true);
                } else if (line.startsWith("`") && line.contains("`: ")) {
                    String sentence = line.substring(line.indexOf("`: ") + 3);
                    Check.due("promise " + entry.getKey() + ", \"" + sentence + "\" has a test", isQuoted(sentence, quotes), true);
                }
            }
        }
    }

    private static void termsHaveTests() {
        List<String> quotes = new ArrayList<>(WITHOUT_A_TEST);
        QUOTES.values().forEach(quotes::addAll);
        int begin = document.indexOf("\n## Terms");
        int end = document.indexOf("The constants: ");
        Check.due("Terms are found", begin >= 0 && end > begin, true);
        int sentences = 0;
        for (String line : document.substring(begin + 9, end).split("\n")) {
            for (String sentence : line.split("(?<=[.)]) (?=[A-Z(])")) {
                if (sentence.endsWith(".") || sentence.endsWith(".)")) {
                    sentences++;
                    Check.due("\"" + sentence + "\" has a test", isQuoted(sentence, quotes), true);
                }
            }
        }
        Check.due("Terms have sentences", sentences > 30, true);
    }
}

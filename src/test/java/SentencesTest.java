import java.io.IOException;
import java.lang.reflect.Method;
import java.nio.charset.StandardCharsets;
import java.nio.file.Files;
import java.nio.file.Path;
import java.util.ArrayList;
import java.util.LinkedHashMap;
import java.util.List;
import java.util.Map;
import java.util.Set;

/**
 * Each sentence of the document has a test, and each test of a sentence quotes one that stands there; it is run at
 * the project's root.
 */
public final class SentencesTest {
    private static final Class<?>[] TESTS = {
        EdgesOfTermsTest.class, EdgesOfCopiesTest.class, EdgesOfAskedTest.class, EdgesOfExceptionsTest.class,
        EdgesOfCoastTest.class, EdgesOfMakingTest.class, EdgesOfMendingTest.class, EdgesOfAskingTest.class,
    };

    /** Parts that may hold sentences without a test of them: what is told there, the others tell by its edges. */
    private static final Set<String> NOT_ASKED = Set.of("PortolanHall", "What it is", "The public face",
        "Not promised");

    /** These only name a call, or say what its rows tell one by one. */
    private static final Set<String> WITHOUT_AN_EDGE = Set.of("Pilots, reports", "Tells of a pilot.",
        "A pilot reports a run.", "Tells of a copyist.", "Tells as what a copyist reads a name.", "Copies a chart.",
        "Exchanges the names of two points of a chart.", "Lets a basin of a chart shrink, or tells its scale.",
        "Lets a stretch of a chart be lost.", "Paints an island of a chart over.", "Returns what a report tells.",
        "Tells something of a point of a chart.", "Returns a chart of the chain of a point.",
        "Tells something of a chart.", "Tells something of an island.",
        "Returns the shift, or the residual of a basin of a chart.",
        "Returns how many errors and islands two charts share in a basin.",
        "Returns the kin of a chart in a basin.",
        "Returns than which year a chart is not older, by the harbours of a basin.");

    /** Calls that answer the number which the rows of what they are asked tell one by one. */
    private static final Set<String> ANSWERED_ROW_BY_ROW = Set.of("Promise 16: at", "Promise 18: of",
        "Promise 19: ofIsland", "Promise 20: fit");

    public static void main(String[] args) throws IOException {
        String text = Files.readString(Path.of("../shared/DOC.md"), StandardCharsets.UTF_8);
        Map<String, List<String>> parts = parts(text);
        Check.yes("the document has all promises", parts.containsKey("Promise 23: date"));
        List<Sentence> quoted = quoted();
        for (Sentence one : quoted) {
            List<String> part = parts.getOrDefault(one.in(), List.of());
            Check.yes("'" + one.in() + "' says: " + one.says(), holds(part, one.says()));
        }
        parts.forEach((heading, sentences) -> {
            for (String sentence : sentences) {
                Check.yes("a test is of: " + heading + " - " + sentence, isTested(heading, sentence, quoted));
            }
        });
        Check.end("SentencesTest");
    }

    private static List<Sentence> quoted() {
        List<Sentence> all = new ArrayList<>();
        for (Class<?> tests : TESTS) {
            for (Method test : Sentences.of(tests)) {
                all.add(test.getAnnotation(Sentence.class));
            }
        }
        return all;
    }

    private static boolean holds(List<String> part, String says) {
        return part.stream().anyMatch(sentence -> sentence.contains(says));
    }

    private static boolean isTested(String heading, String sentence, List<Sentence> quoted) {
        if (NOT_ASKED.contains(heading) || WITHOUT_AN_EDGE.contains(sentence)) {
            return true;
        }
        if (sentence.equals("Returns the number.") && ANSWERED_ROW_BY_ROW.contains(heading)) {
            return true;
        }
        return quoted.stream().anyMatch(one -> one.in().equals(heading) && sentence.contains(one.says()));
    }

    /** The sentences and rows of the document by the headings under which they stand. */
    private static Map<String, List<String>> parts(String text) {
        Map<String, List<String>> parts = new LinkedHashMap<>();
        String heading = "";
        for (String line : text.split("\n")) {
            if (line.matches("#+ .*")) {
                heading = line.replaceFirst("#+ ", "");
            } else if (!line.isBlank() && !line.startsWith("```") && !line.startsWith("Ahead of the calls")) {
                parts.computeIfAbsent(heading, any -> new ArrayList<>()).addAll(sentences(line));
            }
        }
        return parts;
    }

    private static List<String> sentences(String line) {
        if (line.startsWith("- ") || line.startsWith("Throws ") || line.startsWith(" ") || line.contains("` = ")) {
            return List.of(line.strip());
        }
        if (line.matches("`[^`]*\\).*`: .*")) {
            return List.of(line.substring(line.indexOf("`: ") + 3));
        }
        return List.of(line.split("(?<=\\.) +(?=[A-Z])"));
    }
}

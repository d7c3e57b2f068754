import java.io.IOException;
import java.io.UncheckedIOException;
import java.nio.file.Files;
import java.nio.file.Path;
import java.util.LinkedHashMap;
import java.util.LinkedHashSet;
import java.util.Map;
import java.util.Set;

/** Tests that are each named by a sentence of the document; no sentence of a heading may go without one. */
abstract class DocTest extends LobbyTest {
    private static final Path DOC = Path.of("..", "shared", "DOC.md");
    private static final Map<String, String> SECTIONS = sections();
    private static final Map<String, Set<String>> TESTED = new LinkedHashMap<>();
    private static String heading = "";

    private static Map<String, String> sections() {
        Map<String, String> found = new LinkedHashMap<>();
        if (!Files.exists(DOC)) {
            System.out.println(DOC + " is not there: the tests run, but their sentences are not compared with it");
            return found;
        }
        try {
            for (String section : Files.readString(DOC).split("(?m)^#+ ")) {
                String[] parts = section.split("\n", 2);
                found.put(parts[0].trim(), parts.length < 2 ? "" : parts[1]);
            }
        } catch (IOException e) {
            throw new UncheckedIOException(e);
        }
        return found;
    }

    /** The tests that follow are of this heading of the document. */
    static void under(String name) {
        heading = name;
        TESTED.put(name, new LinkedHashSet<>());
        if (!SECTIONS.isEmpty() && !SECTIONS.containsKey(name)) {
            fail("the document has no heading '" + name + "'");
        }
    }

    static void sentence(String quote, Runnable test) {
        if (!SECTIONS.isEmpty() && !SECTIONS.getOrDefault(heading, "").contains(quote)) {
            fail("under '" + heading + "' the document does not say: " + quote);
        }
        TESTED.get(heading).add(quote);
        run(heading + ", \"" + quote + "\"", test);
    }

    /** Each sentence of these headings, and each line of a list, has a test or is part of what has one. */
    static void allSentencesTested() {
        for (Map.Entry<String, Set<String>> tested : TESTED.entrySet()) {
            String text = String.join("\n", tested.getValue());
            for (String sentence : SECTIONS.getOrDefault(tested.getKey(), "").split("\n|(?<=\\.) (?=[A-Z])")) {
                String plain = sentence.replaceFirst("^`[^`]*\\)[^`]*`: ", "");
                if (!plain.isBlank() && !text.contains(plain)) {
                    fail("under '" + tested.getKey() + "' no test is of: " + plain);
                }
            }
        }
    }
}

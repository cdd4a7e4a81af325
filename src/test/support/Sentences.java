import java.io.IOException;
import java.nio.file.Files;
import java.nio.file.Path;
import java.util.ArrayList;
import java.util.List;
import java.util.Set;
import java.util.TreeSet;

/**
 * Tests by the sentences of the document, part by part: each sentence is quoted with its test, and what of a part
 * is neither quoted so nor named as plain is told as wrong, so that no sentence is left out.
 */
public final class Sentences {
    public interface Test {
        void run();
    }

    private static final Path DOCUMENT = Path.of("../shared/DOC.md");
    private static final List<String> LINES = new ArrayList<>();
    private static final Set<String> HEADINGS_LEFT = new TreeSet<>();
    private static String heading = "";
    private static String text = "";
    private static boolean[] isTold = {};
    private static int tested = 0;

    private Sentences() {
    }

    public static void begin() throws IOException {
        if (!Files.exists(DOCUMENT)) {
            // The tests hold without it, but not that there is one for each sentence.
            System.out.println("there is no " + DOCUMENT + ": its sentences are not looked up");
            return;
        }
        LINES.addAll(Files.readAllLines(DOCUMENT));
        for (String line : LINES) {
            if (line.startsWith("##")) {
                HEADINGS_LEFT.add(line);
            }
        }
    }

    /** Begins a part: what stands below its heading, down to the next one. */
    public static void part(String wanted) {
        endPart();
        heading = wanted;
        if (LINES.isEmpty()) {
            return;
        }
        Checks.due(heading + " is a heading of the document", HEADINGS_LEFT.remove(heading), true);
        StringBuilder found = new StringBuilder();
        boolean isInside = false;
        for (String line : LINES) {
            if (line.startsWith("#")) {
                isInside = line.equals(heading);
            } else if (isInside) {
                // FaceTest knows how a call is declared.
                found.append(line.replaceFirst("^`[^`]*`: (?!There|What|Figures)", "")).append(' ');
            }
        }
        text = found.toString().replaceAll("\\s+", " ");
        isTold = new boolean[text.length()];
    }

    /** A sentence, or a part of one, with the test that fails if it does not hold. */
    public static void says(String sentence, Test test) {
        tell(sentence, sentence);
        tested++;
        int before = Checks.asked();
        Checks.within(heading + ": \"" + sentence + "\": ");
        try {
            test.run();
        } catch (RuntimeException e) {
            Checks.due("a call threw " + e + ", as none", false, true);
        }
        Checks.within("");
        Checks.due(heading + ": \"" + sentence + "\" is asked for", Checks.asked() > before, true);
    }

    /** What tells no more than other sentences do, from its first words to its last ones. */
    public static void plain(String first, String last) {
        tell(first, last);
    }

    public static void plain(String sentence) {
        tell(sentence, sentence);
    }

    private static void tell(String first, String last) {
        if (LINES.isEmpty()) {
            return;
        }
        int from = text.indexOf(first);
        while (from >= 0 && isTold[from]) {
            from = text.indexOf(first, from + 1);
        }
        int to = from < 0 ? -1 : text.indexOf(last, from);
        Checks.due(heading + " says \"" + first + "\"", to >= 0, true);
        for (int i = from; to >= 0 && i < to + last.length(); i++) {
            isTold[i] = true;
        }
    }

    private static void endPart() {
        StringBuilder left = new StringBuilder();
        for (int i = 0; i < isTold.length; i++) {
            if (!isTold[i]) {
                left.append(text.charAt(i));
            }
        }
        String words = left.toString().replaceAll("[`\\s]+", " ").trim();
        Checks.due(heading + " has no test of: \"" + words + "\"", words.matches("[-. ]*"), true);
    }

    public static void end() {
        endPart();
        Checks.due("parts without tests: " + HEADINGS_LEFT, HEADINGS_LEFT.isEmpty(), true);
        System.out.println(tested + " sentences have tests");
    }
}

import java.io.IOException;
import java.nio.file.Files;
import java.nio.file.Path;
import java.util.ArrayDeque;
import java.util.Deque;
import java.util.List;
import java.util.regex.Matcher;
import java.util.regex.Pattern;

/** What of LANGUAGE.md can be seen from the text of the program. */
public final class LanguageTest {
    // Each with the number of its rule.
    private static final String[][] NEVER = {
        {"1", "\\bpackage\\b"}, {"1", "\\bprotected\\b"},
        {"2", "->"}, {"2", "::"}, {"2", "\\bvar\\b"},
        {"3", "\\b(HashMap|TreeMap|Map|Set|Object|Long|Boolean|Double)\\b"},
        {"4", "Exact\\b"}, {"4", "\\.stream\\b"}, {"4", "String\\.format"},
        {"6", "\\bfinally\\b"}, {"6", "\\bsynchronized\\b"}, {"6", "\\bassert\\b"}, {"6", "\\bcatch\\b"},
        {"6", "\\b(equals|hashCode|toString)\\b"}, {"6", "extends \\w*Exception"},
        {"10", "\" *\\+"}, {"10", "\\+ *\""}, {"10", "[^|]\\|=|[^&]&="},
        {"13", "\\b(System|Thread|Random|Runtime|Files?)\\b"}
    };
    private static final String THROWN = "throw new (IllegalStateException|IllegalArgumentException|IndexOutOfBoundsException)\\(\"[^\"]*\"\\);";

    public static void main(String[] args) throws IOException {
        List<String> lines = Files.readAllLines(Path.of("src/main/java/BookExchange.java"));
        StringBuilder code = new StringBuilder();
        for (int i = 0; i < lines.size(); i++) {
            String line = lines.get(i).replaceAll("//.*", "");
            boolean isComment = line.trim().startsWith("*") || line.trim().startsWith("/*");
            checkLine(i + 1, isComment ? "" : line);
            code.append(isComment ? "" : line).append('\n');
        }
        checkMethods(code.toString().split("\n", -1));
        checkStaticFields(code.toString());
        Checks.end("LanguageTest");
    }

    private static void checkLine(int number, String line) {
        for (String[] never : NEVER) {
            Checks.due("line " + number + ", rule " + never[0] + ": " + line.trim(), Pattern.compile(never[1]).matcher(line).find(), false);
        }
        Checks.due("line " + number + ", signs", line.chars().allMatch(c -> c > 0 && c < 128), true);
        if (line.contains("throw ")) {
            Checks.due("line " + number + ", rule 6: " + line.trim(), line.trim().matches(THROWN), true);
        }
        if (line.startsWith("import")) {
            Checks.due("line " + number + ", rule 4", line.matches("import java\\.util\\.(ArrayList|List|Arrays);"), true);
        }
    }

    /** Methods of some sixty lines, with at most seven parameters. */
    private static void checkMethods(String[] lines) {
        Pattern head = Pattern.compile("^ +(?:[a-zA-Z<>\\[\\]]+ )*\\w+\\(([^()]*)\\)(?: throws [^{]*)? \\{$");
        Deque<Integer> open = new ArrayDeque<>();
        for (int i = 0; i < lines.length; i++) {
            Matcher found = head.matcher(lines[i]);
            if (found.find() && !lines[i].trim().matches("(if|for|while|switch|}).*")) {
                Checks.due("line " + (i + 1) + ", rule 11: parameters", found.group(1).split(",").length <= 7, true);
                open.push(i);
            }
            int depth = open.isEmpty() ? -1 : lines[open.peek()].indexOf(lines[open.peek()].trim());
            if (depth >= 0 && lines[i].equals(" ".repeat(depth) + "}")) {
                Checks.due("line " + (open.peek() + 1) + ", rule 11: lines", i - open.pop() <= 60, true);
            }
        }
        Checks.due("all methods end", open.isEmpty(), true);
    }

    private static void checkStaticFields(String code) {
        Matcher found = Pattern.compile("\\n *[a-z ]*\\bstatic\\b([^\\n(]*)[=;]").matcher(code);
        while (found.find()) {
            Checks.due("rule 5:" + found.group(1), found.group(1).contains("final "), true);
        }
        Checks.due("rule 5: no static block", Pattern.compile("static *\\{").matcher(code).find(), false);
    }
}

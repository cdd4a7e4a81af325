import java.io.File;
import java.io.IOException;
import java.io.OutputStream;
import java.nio.file.Files;
import java.nio.file.Path;
import java.util.ArrayList;
import java.util.List;
import java.util.concurrent.ExecutorService;
import java.util.concurrent.Executors;
import java.util.concurrent.Future;
import java.util.concurrent.TimeUnit;
import java.util.regex.Matcher;
import java.util.regex.Pattern;
import javax.tools.JavaCompiler;
import javax.tools.ToolProvider;

/**
 * Makes small changes of the program, one at a time, and tells which of them a test lets pass. It is run by hand, from
 * the project's directory, and takes some five minutes: java src/test/tools/Mutants.java [test, SentencesTest if none]
 */
public final class Mutants {
    private static final Path PROGRAM = Path.of("src/main/java/BookExchange.java");
    private static final JavaCompiler COMPILER = ToolProvider.getSystemJavaCompiler();
    private static final int SECONDS = 30;
    // What is looked for, and what takes its place; a text of code never ends with a comment here.
    private static final String[][] CHANGES = {
        {"(?<![<>=!-])<(?![=<A-Z])", "<="}, {"<=", "<"}, {"(?<![<>=-])>(?![=>(])", ">="}, {">=", ">"}, {"==", "!="}, {"!=", "=="},
        {"&&", "||"}, {"\\|\\|", "&&"}, {" \\+ ", " - "}, {" - ", " + "}, {" \\* ", " + "}, {"\\+=", "-="}, {"-=", "+="},
        {"-= ", "= "}, {"\\+= ", "= "}, {"\\+\\+", "--"}, {"(?<![\\w.])-(?=[\\w(])", ""}, {"\\btrue\\b", "false"}, {"\\bfalse\\b", "true"},
        {"!(?=[\\w(])", ""}, {"Math\\.min", "Math.max"}, {"Math\\.max", "Math.min"}, {"Math\\.abs\\(", "("},
        {"if \\((.*)\\) \\{$", "if (!($1)) {"}, {" \\? ([^:?]+) : ([^;?)]+)([;)])", " ? $2 : $1$3"},
        {"^( +)(?!return|private|public|final|throw|continue|break|case)[a-zA-Z.]+(\\(.*\\)| [-+]?= .*|\\+\\+|--);$", "$1;"}
    };

    private Mutants() {
    }

    public static void main(String[] args) throws Exception {
        String test = args.length > 0 ? args[0] : "SentencesTest";
        Path room = Files.createTempDirectory("mutants");
        COMPILER.run(null, null, null, "-d", room.resolve("tests").toString(),
            "-sourcepath", "src/test/support:src/main/java", "src/test/java/" + test + ".java");
        for (File file : room.resolve("tests").toFile().listFiles()) {
            if (file.getName().startsWith("BookExchange")) {
                file.delete();
            }
        }
        List<String> lines = Files.readAllLines(PROGRAM);
        List<Future<String>> told = new ArrayList<>();
        ExecutorService workers = Executors.newFixedThreadPool(Runtime.getRuntime().availableProcessors());
        for (int i = 0; i < lines.size(); i++) {
            for (String changed : changesOf(lines.get(i))) {
                int line = i, number = told.size();
                told.add(workers.submit(() -> outcome(room, number, lines, line, changed, test)));
            }
        }
        workers.shutdown();
        int passed = 0;
        for (Future<String> one : told) {
            if (!one.get().isEmpty()) {
                passed++;
                System.out.println(one.get());
            }
        }
        System.out.println(test + " lets " + passed + " of " + told.size() + " changes pass");
    }

    private static List<String> changesOf(String line) {
        List<String> changed = new ArrayList<>();
        String code = line.trim();
        if (code.startsWith("//") || code.startsWith("*") || code.startsWith("/*") || code.startsWith("public static final")) {
            return changed;
        }
        for (String[] change : CHANGES) {
            Matcher found = Pattern.compile(change[0]).matcher(line);
            for (int at = 0; found.find(at); at = found.end()) {
                StringBuilder text = new StringBuilder();
                Matcher one = Pattern.compile(change[0]).matcher(line);
                one.find(found.start());
                one.appendReplacement(text, change[1]);
                one.appendTail(text);
                changed.add(text.toString());
            }
        }
        Matcher number = Pattern.compile("(?<![\\w.])\\d+(?![\\w.])").matcher(line);
        while (number.find()) {
            for (int more = -1; more < 2; more += 2) {
                int other = Integer.parseInt(number.group()) + more;
                changed.add(line.substring(0, number.start()) + other + line.substring(number.end()));
            }
        }
        return changed;
    }

    /** What to tell of a change: nothing, if it does not compile, or the test fails by it, or does not end. */
    private static String outcome(Path room, int number, List<String> lines, int line, String changed, String test) throws Exception {
        Path own = Files.createDirectory(room.resolve("change" + number));
        List<String> program = new ArrayList<>(lines);
        program.set(line, changed);
        Path source = Files.write(own.resolve("BookExchange.java"), program);
        if (COMPILER.run(null, OutputStream.nullOutputStream(), OutputStream.nullOutputStream(), "-nowarn", "-d", own.toString(), source.toString()) != 0) {
            return "";
        }
        int ended = run(SECONDS, "java", "-XX:+UseSerialGC", "-XX:TieredStopAtLevel=1", "-cp", own + ":" + room.resolve("tests"), test);
        return ended != 0 ? "" : (line + 1) + ": " + lines.get(line).trim() + "\n      " + changed.trim();
    }

    private static int run(int seconds, String... command) throws IOException, InterruptedException {
        Process process = new ProcessBuilder(command)
            .redirectOutput(ProcessBuilder.Redirect.DISCARD).redirectError(ProcessBuilder.Redirect.DISCARD).start();
        if (!process.waitFor(seconds, TimeUnit.SECONDS)) {
            process.destroyForcibly();
            return -1;
        }
        return process.exitValue();
    }
}

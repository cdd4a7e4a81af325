import java.io.File;
import java.io.IOException;
import java.lang.reflect.Method;
import java.net.URL;
import java.net.URLClassLoader;
import java.nio.file.Files;
import java.nio.file.Path;
import java.util.List;
import java.util.regex.Matcher;
import java.util.regex.Pattern;
import javax.tools.JavaCompiler;
import javax.tools.ToolProvider;

/** README.md's examples, run as they stand there: each call must answer what is told behind it. */
public final class ReadmeTest {
    private static final Path README = Path.of("README.md");
    private static final Pattern TOLD = Pattern.compile(" *(int \\w+ = )?(.*?); *// (throws \\w+|-?\\d+|true|false)\\b.*");

    public static void main(String[] args) throws Exception {
        List<String> lines = Files.readAllLines(README);
        JavaCompiler compiler = ToolProvider.getSystemJavaCompiler();
        if (compiler == null) {
            // The other tests hold all the same where java comes without its compiler.
            System.out.println("there is no compiler to be called: README.md's examples are not run");
        } else {
            runExamples(compiler, sourceOf(lines));
        }
        namesAllCalls(lines);
        Checks.end("ReadmeTest");
    }

    /** A class of the examples, each one a block of its own, with checks of the answers told. */
    private static String sourceOf(List<String> lines) {
        StringBuilder source = new StringBuilder("public final class Shown {\npublic static void run() {\n");
        boolean isInside = false;
        int told = 0;
        for (String line : lines) {
            if (line.startsWith("```")) {
                boolean begins = line.equals("```java");
                source.append(begins ? "{\n" : isInside ? "}\n" : "");
                isInside = begins;
            } else if (isInside) {
                Matcher found = TOLD.matcher(line);
                boolean isTold = found.matches();
                source.append(isTold ? checked(found.group(1), found.group(2), found.group(3)) : line).append('\n');
                told += isTold ? 1 : 0;
            }
        }
        Checks.due("README.md tells more than 40 answers", told > 40, true);
        return source.append("}\n}\n").toString();
    }

    private static String checked(String declared, String call, String due) {
        String what = "Checks.due(\"README.md: " + call + "\", ";
        if (declared != null) {
            String name = declared.split(" ")[1];
            return declared + call + "; " + what + name + ", " + due + ");";
        }
        if (due.startsWith("throws ")) {
            return what + "Checks.of(() -> " + call + "), " + constantOf(due.substring(7)) + ");";
        }
        return what + call + ", " + due + ");";
    }

    private static String constantOf(String exception) {
        return exception.startsWith("Index") ? "Checks.INDEX" : exception.startsWith("IllegalA") ? "Checks.ARGUMENT" : "Checks.STATE";
    }

    private static void runExamples(JavaCompiler compiler, String source) throws Exception {
        Path room = Files.createTempDirectory("readme");
        try {
            Path file = Files.writeString(room.resolve("Shown.java"), source);
            String path = System.getProperty("java.class.path");
            int outcome = compiler.run(null, null, null, "-cp", path, "-d", room.toString(), file.toString());
            Checks.due("README.md's examples compile: javac", outcome, 0);
            if (outcome == 0) {
                try (URLClassLoader loader = new URLClassLoader(new URL[] {room.toUri().toURL()})) {
                    loader.loadClass("Shown").getMethod("run").invoke(null);
                }
            }
        } finally {
            clear(room);
        }
    }

    private static void clear(Path room) throws IOException {
        for (File file : room.toFile().listFiles()) {
            Files.delete(file.toPath());
        }
        Files.delete(room);
    }

    private static void namesAllCalls(List<String> lines) {
        String text = String.join("\n", lines);
        for (Method method : BookExchange.class.getDeclaredMethods()) {
            if (java.lang.reflect.Modifier.isPublic(method.getModifiers())) {
                Checks.due("README.md names " + method.getName(), text.contains("`" + method.getName() + "`"), true);
            }
        }
        Checks.due("README.md tells how to run the tests", text.contains("## How to run its tests") && text.contains(".ci/run"), true);
    }
}

import java.io.IOException;
import java.lang.reflect.Method;
import java.lang.reflect.Modifier;
import java.net.URL;
import java.net.URLClassLoader;
import java.nio.file.Files;
import java.nio.file.Path;
import java.util.ArrayList;
import java.util.List;
import java.util.regex.Matcher;
import java.util.regex.Pattern;
import java.util.stream.Stream;
import javax.tools.JavaCompiler;
import javax.tools.ToolProvider;

/**
 * README.md shows what the class answers: its Java is compiled and run, and each call held against
 * the answer behind its //. A line that shows neither a new object nor an answer is a fault, so that
 * nothing stands there unseen.
 */
public final class ReadmeTest {
    private static final Check CHECK = new Check("ReadmeTest");
    private static final Path README = Path.of("README.md");
    private static final Path TESTS = Path.of("src", "test", "java");
    private static final Pattern BLOCK = Pattern.compile("^```java\\n(.*?)^```$",
            Pattern.MULTILINE | Pattern.DOTALL);
    private static final Pattern SHOWN =
            Pattern.compile("(.+\\)); +// (throws \\w+|true|false|-?\\d+)(?![\\w.]).*");
    private static final String NEW_OBJECT = "RateShapes x = new RateShapes();";
    private static final String CODE = "ReadmeCode";

    private static final List<String> CALLS = new ArrayList<>();
    private static final List<String> ANSWERS = new ArrayList<>();

    public static void main(String[] args) throws Exception {
        String readme = Files.readString(README);
        String code = code(readme);
        Path room = Files.createTempDirectory("readme");
        try {
            compareAnswers(run(room, code));
        } finally {
            clear(room);
        }
        everyCallIsShown(code);
        everyTestIsNamed(readme);
        CHECK.end();
    }

    /** Blocks that begin with static are helpers; all others are calls, each block on its own. */
    private static String code(String readme) {
        StringBuilder helpers = new StringBuilder();
        StringBuilder calls = new StringBuilder();
        Matcher block = BLOCK.matcher(readme);
        while (block.find()) {
            if (block.group(1).startsWith("static ")) {
                helpers.append(block.group(1));
            } else {
                calls.append("{\n").append(calls(block.group(1))).append("}\n");
            }
        }
        return "public final class " + CODE + " {\n" + helpers
                + "public static void run(java.util.List<String> answers) {\n" + calls + "}\n}\n";
    }

    private static String calls(String block) {
        StringBuilder calls = new StringBuilder();
        for (String line : block.split("\n")) {
            Matcher shown = SHOWN.matcher(line);
            if (shown.matches()) {
                CALLS.add(shown.group(1));
                ANSWERS.add(shown.group(2));
                calls.append("try { answers.add(String.valueOf(").append(shown.group(1))
                        .append(")); } catch (RuntimeException e) {")
                        .append(" answers.add(\"throws \" + e.getClass().getSimpleName()); }\n");
            } else {
                CHECK.due("a line without an answer", line, NEW_OBJECT);
                calls.append(line).append('\n');
            }
        }
        return calls.toString();
    }

    private static List<String> run(Path room, String code) throws Exception {
        List<String> answers = new ArrayList<>();
        Path source = Files.writeString(room.resolve(CODE + ".java"), code);
        JavaCompiler compiler = ToolProvider.getSystemJavaCompiler();
        int failed = compiler.run(null, null, null, "-cp", System.getProperty("java.class.path"),
                "-d", room.toString(), source.toString());
        CHECK.due("javac on the Java of README.md", failed, 0);
        if (failed == 0) {
            URL[] places = {room.toUri().toURL()};
            try (URLClassLoader loader = new URLClassLoader(places)) {
                loader.loadClass(CODE).getMethod("run", List.class).invoke(null, answers);
            }
        }
        return answers;
    }

    private static void compareAnswers(List<String> got) {
        CHECK.due("how many answers", got.size(), ANSWERS.size());
        for (int i = 0; i < got.size() && i < ANSWERS.size(); i++) {
            CHECK.due("README.md: " + CALLS.get(i), got.get(i), ANSWERS.get(i));
        }
    }

    private static void everyCallIsShown(String code) {
        for (Method m : RateShapes.class.getDeclaredMethods()) {
            if (Modifier.isPublic(m.getModifiers())) {
                CHECK.due("README.md shows " + m.getName(), code.contains("x." + m.getName() + "("), true);
            }
        }
    }

    private static void everyTestIsNamed(String readme) throws IOException {
        try (Stream<Path> files = Files.list(TESTS)) {
            for (Path file : files.toList()) {
                String name = file.getFileName().toString();
                if (name.endsWith("Test.java")) {
                    String test = name.substring(0, name.length() - ".java".length());
                    CHECK.due("README.md names " + test, readme.contains("- `" + test + "`: "), true);
                }
            }
        }
    }

    private static void clear(Path room) throws IOException {
        try (Stream<Path> files = Files.list(room)) {
            for (Path file : files.toList()) {
                Files.delete(file);
            }
        }
        Files.delete(room);
    }
}

import java.io.IOException;
import java.net.URL;
import java.net.URLClassLoader;
import java.nio.file.Files;
import java.nio.file.Path;
import java.util.ArrayList;
import java.util.Arrays;
import java.util.Comparator;
import java.util.List;
import java.util.regex.Matcher;
import java.util.regex.Pattern;
import java.util.stream.Collectors;
import java.util.stream.Stream;
import javax.tools.ToolProvider;

/**
 * The examples of a page: its java blocks are compiled just as they stand there, as one program, and what
 * each call in them answers is kept beside the answer that the page says behind it.
 */
final class ReadmeExamples {
    private static final Pattern CALL = Pattern.compile(
        "(?:\\w+ \\w+ = )?(room\\.(\\w+)\\([^;]*\\));\\s+// (-?\\d+|true|false|throws \\w+)(?::.*)?");
    private static final Pattern PLAIN = Pattern.compile(
        "(?:MileLists )?room = new MileLists\\(\\);(?:\\s+//.*)?|type\\(room, \"[^\"]*\"\\);(?:\\s+//.*)?");
    private static final Pattern BLOCK = Pattern.compile("(?ms)^```java\\n(.*?)^```$");

    final List<String> calls = new ArrayList<>();
    final List<String> methods = new ArrayList<>();
    final List<String> said = new ArrayList<>();
    final List<String> answers = new ArrayList<>();
    /** Lines of examples that are neither a call with its answer nor what such calls need. */
    final List<String> unclear = new ArrayList<>();

    private final StringBuilder members = new StringBuilder();
    private final StringBuilder statements = new StringBuilder();

    ReadmeExamples(String page) throws Exception {
        Matcher blocks = BLOCK.matcher(page);
        while (blocks.find()) {
            if (blocks.group(1).startsWith("static ")) {
                members.append(blocks.group(1));
            } else {
                blocks.group(1).lines().forEach(this::takeLine);
            }
        }
        if (unclear.isEmpty()) {
            answers.addAll(Arrays.asList(run(program())));
        }
    }

    /** What stands on the page beside its examples. */
    static String proseOf(String page) {
        return BLOCK.matcher(page).replaceAll("");
    }

    private void takeLine(String line) {
        Matcher call = CALL.matcher(line);
        if (call.matches()) {
            calls.add(call.group(1));
            methods.add(call.group(2));
            said.add(call.group(3));
            statements.append("try { answers.add(String.valueOf(").append(call.group(1)).append(")); }\n");
            statements.append("catch (RuntimeException e) { answers.add(\"throws \" + e.getClass().getSimpleName()); }\n");
        } else if (PLAIN.matcher(line).matches()) {
            statements.append(line).append('\n');
        } else if (!line.isBlank()) {
            unclear.add(line);
        }
    }

    private String program() {
        return "public final class ReadmeProgram {\n" + members
            + "public static String[] answers() {\njava.util.List<String> answers = new java.util.ArrayList<>();\n"
            + statements + "return answers.toArray(new String[0]);\n}\n}\n";
    }

    private static String[] run(String program) throws Exception {
        Path home = Files.createTempDirectory("readme");
        try {
            Path file = home.resolve("ReadmeProgram.java");
            Files.writeString(file, program);
            int failed = ToolProvider.getSystemJavaCompiler().run(null, null, null, "-d", home.toString(),
                "-cp", System.getProperty("java.class.path"), file.toString());
            if (failed != 0) {
                throw new IllegalStateException("the examples do not compile");
            }
            try (URLClassLoader loader = new URLClassLoader(new URL[] {home.toUri().toURL()})) {
                return (String[]) loader.loadClass("ReadmeProgram").getMethod("answers").invoke(null);
            }
        } finally {
            remove(home);
        }
    }

    private static void remove(Path home) throws IOException {
        List<Path> all;
        try (Stream<Path> walk = Files.walk(home)) {
            all = walk.sorted(Comparator.reverseOrder()).collect(Collectors.toList());
        }
        for (Path path : all) {
            Files.delete(path);
        }
    }

    /** Each call that answers something else than the page says. */
    List<String> wrong() {
        List<String> found = new ArrayList<>();
        for (int i = 0; i < answers.size(); i++) {
            if (!answers.get(i).equals(said.get(i))) {
                found.add("example " + (i + 1) + " " + calls.get(i) + " answers " + answers.get(i)
                    + ", README.md says " + said.get(i));
            }
        }
        return found;
    }
}

import java.io.IOException;
import java.lang.reflect.Method;
import java.lang.reflect.Modifier;
import java.nio.file.Files;
import java.nio.file.Path;
import java.util.List;
import java.util.Set;
import java.util.TreeSet;
import java.util.regex.Matcher;
import java.util.regex.Pattern;
import java.util.stream.Collectors;
import java.util.stream.Stream;

/** README.md: its examples answer what it says, and it tells of every call and of every test. */
public final class ReadmeTest {
    private static final Checks CHECKS = new Checks();

    public static void main(String[] args) throws Exception {
        findsWrongExamples();
        String page = Files.readString(Path.of("README.md"));
        examples(page);
        everyCall(page);
        everyTest(page);
        CHECKS.finish();
    }

    /** The test of the test: what a page says wrong is found. */
    private static void findsWrongExamples() throws Exception {
        CHECKS.part("a page that says it");
        CHECKS.due("right", wrongOn("room.place(); // -1: none", "room.day(2); // 2"), 0);
        CHECKS.due("wrong", wrongOn("room.place(); // 0: none"), 1);
        CHECKS.due("twice wrong", wrongOn("room.day(2); // 3", "room.day(0); // 2", "room.count(4); // -1"), 2);
        CHECKS.due("wrong of a boolean", wrongOn("room.sound(0, 1); // false: they were"), 1);
        CHECKS.due("that it throws", wrongOn("room.of(0, 0); // throws NoSuchElementException: no list"), 0);
        CHECKS.due("that it throws another", wrongOn("room.of(0, 0); // throws IllegalStateException"), 1);
        CHECKS.due("that it throws, and it does not", wrongOn("room.place(); // throws NoSuchElementException"), 1);
        CHECKS.due("that it does not throw", wrongOn("room.of(0, 0); // -1: no list"), 1);
        CHECKS.due("a call without its answer", unclearOn("room.place();"), 1);
        CHECKS.due("a call with words for an answer", unclearOn("room.place(); // none"), 1);
        CHECKS.due("a line that is no call", unclearOn("int x = 3;"), 1);
    }

    private static ReadmeExamples page(String... lines) throws Exception {
        return new ReadmeExamples("# A page\n```java\nMileLists room = new MileLists();\n"
            + String.join("\n", lines) + "\n```\n");
    }

    private static int wrongOn(String... lines) throws Exception {
        return page(lines).wrong().size();
    }

    private static int unclearOn(String... lines) throws Exception {
        return page(lines).unclear.size();
    }

    private static void examples(String page) throws Exception {
        CHECKS.part("the examples");
        ReadmeExamples examples = new ReadmeExamples(page);
        for (String line : examples.unclear) {
            CHECKS.due("a line of which no answer is said: " + line, 1, 0);
        }
        CHECKS.due("as many answers as calls", examples.answers.size(), examples.calls.size());
        for (String line : examples.wrong()) {
            CHECKS.due(line, 1, 0);
        }
        for (Method m : faceMethods()) {
            CHECKS.due("shows " + m.getName(), examples.methods.contains(m.getName()), true);
        }
        CHECKS.due("shows a call that throws", examples.said.contains("throws NoSuchElementException"), true);
        boolean beside = Pattern.compile("room\\.\\w+\\(").matcher(ReadmeExamples.proseOf(page)).find();
        CHECKS.due("calls of a room outside the examples, where they are not tried", beside, false);
    }

    private static List<Method> faceMethods() {
        return Stream.of(MileLists.class.getDeclaredMethods())
            .filter(m -> Modifier.isPublic(m.getModifiers())).collect(Collectors.toList());
    }

    /** The table of calls has a row for each, with as many parameters, and none for others. */
    private static void everyCall(String page) {
        CHECKS.part("the table of calls");
        Set<String> rows = new TreeSet<>();
        Matcher row = Pattern.compile("(?m)^\\| `(\\w+) (\\w+)\\(([^)]*)\\)` \\| [^|]+ \\| [^|]+ \\|$").matcher(page);
        while (row.find()) {
            rows.add(row.group(1) + " " + row.group(2) + "(" + row.group(3).replaceAll("(\\w+) \\w+", "$1") + ")");
        }
        Set<String> face = new TreeSet<>();
        for (Method m : faceMethods()) {
            String parameters = Stream.of(m.getParameterTypes()).map(Class::getName).collect(Collectors.joining(", "));
            face.add(m.getReturnType().getName() + " " + m.getName() + "(" + parameters + ")");
        }
        CHECKS.due("rows " + rows + " for " + face, rows.equals(face), true);
        CHECKS.due("tells the value of NONE", page.contains("`MileLists.NONE` is " + MileLists.NONE + "."), true);
    }

    private static void everyTest(String page) throws IOException {
        CHECKS.part("the tests");
        Set<String> there;
        try (Stream<Path> files = Files.list(Path.of("src/test/java"))) {
            there = files.map(f -> f.getFileName().toString()).filter(f -> f.endsWith("Test.java"))
                .map(f -> f.replace(".java", "")).collect(Collectors.toCollection(TreeSet::new));
        }
        Set<String> told = new TreeSet<>();
        Matcher item = Pattern.compile("(?m)^- `(\\w+)`:").matcher(page);
        while (item.find()) {
            told.add(item.group(1));
        }
        CHECKS.due("told " + told + ", there are " + there, told.equals(there), true);
        CHECKS.due(".ci/run can be run", Files.isExecutable(Path.of(".ci/run")), true);
        CHECKS.due("names .ci/run", page.contains("\n.ci/run\n"), true);
    }
}

import java.nio.file.Files;
import java.nio.file.Path;
import java.util.ArrayList;
import java.util.List;
import java.util.Set;
import java.util.TreeSet;

/** Rules of ../shared/LANGUAGE.md for which the program must be read as javac reads it. */
public final class RulesTest {
    private static final Checks CHECKS = new Checks();

    public static void main(String[] args) throws Exception {
        findsBrokenRules();
        ProgramTree program = new ProgramTree(Path.of("src/main/java/MileLists.java"));
        CHECKS.part("rules 2 and 6: no lambda, no method reference, no try; casts of numbers alone");
        dueNone(program.otherForms);
        CHECKS.part("rule 4: only what stands here");
        dueNone(without(program.library, Set.of("Math.abs(int)", "Math.max(int,int)", "Math.min(int,int)")));
        CHECKS.part("rule 6: a call of the face throws exactly what and where the document says");
        dueNone(without(program.thrown, "MileLists.of(int,int) new NoSuchElementException(\""));
        CHECKS.due("places that throw", program.thrown.size(), 2);
        CHECKS.part("rule 8: recursion");
        Set<String> rings = new TreeSet<>();
        int deepest = deepest(program, rings);
        dueNone(rings);
        CHECKS.part("rule 11: calls that are no recursion go at most eight deep");
        CHECKS.due("calls open at once: " + deepest, deepest <= 8, true);
        CHECKS.due("methods read", program.calls.size() > 60, true);
        CHECKS.part("rule 11: some twelve classes");
        CHECKS.due("classes " + program.classes, program.classes.size() <= 12, true);
        CHECKS.part("rule 12: what a run makes is counted (here: in constructors alone)");
        dueNone(program.made);
        CHECKS.finish();
    }

    private static void dueNone(Iterable<String> found) {
        int number = 0;
        for (String each : found) {
            number++;
            CHECKS.due(each, 1, 0);
        }
        CHECKS.due("found", number, 0);
    }

    private static List<String> without(Iterable<String> all, Set<String> fine) {
        List<String> left = new ArrayList<>();
        all.forEach(each -> {
            if (!fine.contains(each)) {
                left.add(each);
            }
        });
        return left;
    }

    private static List<String> without(Iterable<String> all, String fineStart) {
        List<String> left = new ArrayList<>();
        all.forEach(each -> {
            if (!each.startsWith(fineStart)) {
                left.add(each);
            }
        });
        return left;
    }

    private static int deepest(ProgramTree program, Set<String> rings) {
        int most = 0;
        for (String method : program.calls.keySet()) {
            most = Math.max(most, program.depth(method, new ArrayList<>(), rings));
        }
        return most;
    }

    /** The test of the test: a file that breaks each of these rules. */
    private static void findsBrokenRules() throws Exception {
        Path home = Files.createTempDirectory("rules");
        Path file = home.resolve("Broken.java");
        try {
            Files.writeString(file, "final class Broken {\n"
                + "  private final int[] row = new int[3];\n"
                + "  int a(Object o) { return b(2) + Math.floorMod(7, 2) + ((String) o).length(); }\n"
                + "  int b(int n) { if (n < 0) { throw new IllegalStateException(\"\"); } return c(n); }\n"
                + "  int c(int n) { return n > 0 ? c(n - 1) : new Inside().d(); }\n"
                + "  void e() { try { b(1); } catch (RuntimeException x) { row[0] = new int[] {1}.length; } }\n"
                + "  Runnable f() { Runnable r = () -> e(); r.run(); return this::e; }\n"
                + "  static final class Inside { int d() { return 1; } }\n}\n");
            ProgramTree broken = new ProgramTree(file);
            CHECKS.part("a file that breaks the rules");
            CHECKS.due("forms " + broken.otherForms, broken.otherForms.size(), 5);
            CHECKS.due("library " + broken.library, broken.library.size(), 3);
            CHECKS.due("thrown " + broken.thrown, broken.thrown.size(), 1);
            CHECKS.due("made " + broken.made, broken.made.size(), 2);
            CHECKS.due("classes " + broken.classes, broken.classes.size(), 2);
            Set<String> rings = new TreeSet<>();
            CHECKS.due("depth: f, e, b, c, d", deepest(broken, rings), 5);
            CHECKS.due("rings " + rings, rings.equals(Set.of("Broken.c(int)")), true);
        } finally {
            Files.deleteIfExists(file);
            Files.delete(home);
        }
    }
}

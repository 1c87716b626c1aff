import java.lang.reflect.Constructor;
import java.lang.reflect.Field;
import java.lang.reflect.Method;
import java.lang.reflect.Modifier;
import java.nio.file.Files;
import java.nio.file.Path;
import java.util.Arrays;
import java.util.Set;
import java.util.TreeSet;
import java.util.regex.Matcher;
import java.util.regex.Pattern;

/** The public face of the class, and those rules of LANGUAGE.md that can be seen from outside. */
public final class FaceTest {
    private static final Checks CHECKS = new Checks();
    private static final String[] FACE = {
        "int feed(int, int, int, int, int)", "int end(int)", "int list(int)", "int place()", "int ruin(int)",
        "int stone(int, int, int)", "int habit(int, int, int)", "boolean sound(int, int)", "boolean costs(int, int)",
        "int day(int)", "int apart(int, int)", "int reading(int, int, int)", "int best(int, int)",
        "int at(int, int, int)", "int span(int, int, int, int, int)", "int rivals(int, int, int)",
        "int shared(int, int, int)", "int of(int, int) throws NoSuchElementException", "int letter(int, int, int)",
        "int count(int)"};

    public static void main(String[] args) throws Exception {
        documentFace(Path.of("..", "shared", "DOC.md"));
        members();
        nestedClasses();
        source(Files.readString(Path.of("src/main/java/MileLists.java")));
        CHECKS.finish();
    }

    /** That FACE is what the document shows under its heading; where there is none to be read, FACE alone counts. */
    private static void documentFace(Path path) throws Exception {
        if (!Files.isReadable(path)) {
            return;
        }
        CHECKS.part("the document's face");
        String shown = Files.readString(path).split("## The public face", 2)[1].split("\n## ", 2)[0];
        Set<String> methods = new TreeSet<>();
        Matcher line = Pattern.compile("(?m)^    public (\\w+ \\w+)\\((.*)\\)( throws \\w+)?;$").matcher(shown);
        while (line.find()) {
            String throwing = line.group(3) == null ? "" : line.group(3);
            methods.add(line.group(1) + "(" + line.group(2).replaceAll("(\\w+) \\w+", "$1") + ")" + throwing);
        }
        CHECKS.due("methods " + methods, methods.equals(new TreeSet<>(Arrays.asList(FACE))), true);
        int others = shown.split("(?m)^    public ", -1).length - 1 - methods.size();
        CHECKS.due("members beside methods (NONE and the constructor)", others, 2);
        CHECKS.due("NONE", shown.contains("public static final int NONE = " + MileLists.NONE + ";"), true);
        CHECKS.due("the constructor", shown.contains("public MileLists();"), true);
    }

    private static void members() {
        CHECKS.part("face");
        CHECKS.due("public and final", Modifier.isPublic(MileLists.class.getModifiers())
            && Modifier.isFinal(MileLists.class.getModifiers()), true);
        Set<String> seen = new TreeSet<>();
        for (Method m : MileLists.class.getDeclaredMethods()) {
            if (!Modifier.isPrivate(m.getModifiers())) {
                seen.add(shape(m));
            }
        }
        Set<String> want = new TreeSet<>(Arrays.asList(FACE));
        CHECKS.due("methods " + seen, seen.equals(want), true);
        int fields = 0;
        for (Field f : MileLists.class.getDeclaredFields()) {
            fields += Modifier.isPrivate(f.getModifiers()) ? 0 : 1;
            boolean constant = !Modifier.isStatic(f.getModifiers()) || Modifier.isFinal(f.getModifiers());
            CHECKS.due("static field " + f.getName() + " is final", constant, true);
        }
        CHECKS.due("fields to be seen (NONE alone)", fields, 1);
        Constructor<?>[] made = MileLists.class.getDeclaredConstructors();
        CHECKS.due("constructors", made.length, 1);
        CHECKS.due("its parameters", made[0].getParameterCount(), 0);
        CHECKS.due("it is public", Modifier.isPublic(made[0].getModifiers()), true);
    }

    private static String shape(Method m) {
        StringBuilder text = new StringBuilder(m.getReturnType().getSimpleName()).append(' ').append(m.getName()).append('(');
        for (int i = 0; i < m.getParameterCount(); i++) {
            text.append(i == 0 ? "" : ", ").append(m.getParameterTypes()[i].getSimpleName());
        }
        text.append(')');
        for (Class<?> thrown : m.getExceptionTypes()) {
            text.append(" throws ").append(thrown.getSimpleName());
        }
        return Modifier.isStatic(m.getModifiers()) ? "static " + text : text.toString();
    }

    private static void nestedClasses() {
        CHECKS.part("classes inside");
        Set<String> face = new TreeSet<>();
        for (String method : FACE) {
            face.add(method.replaceAll("^\\w+ (\\w+)\\(.*", "$1"));
        }
        CHECKS.due("at most twelve classes", MileLists.class.getDeclaredClasses().length <= 11, true);
        for (Class<?> inside : MileLists.class.getDeclaredClasses()) {
            CHECKS.due(inside + " is static", Modifier.isStatic(inside.getModifiers()), true);
            CHECKS.due(inside + " is public", Modifier.isPublic(inside.getModifiers()), false);
            for (Method m : inside.getDeclaredMethods()) {
                CHECKS.due(m + " bears a public name", face.contains(m.getName()), false);
                CHECKS.due(m + " has at most seven parameters", m.getParameterCount() <= 7, true);
            }
            int fields = 0;
            for (Field f : inside.getDeclaredFields()) {
                fields += Modifier.isStatic(f.getModifiers()) ? 0 : 1;
            }
            CHECKS.due(inside + " has at most twenty fields", fields <= 20, true);
        }
    }

    private static void source(String text) {
        CHECKS.part("source");
        String[] never = {"->", "::", "synchronized", "assert ", "finally", "catch", "Exact\\(", "Object ", "static \\{",
            "package ", "System\\.(?!arraycopy)", "Thread", "Random", "instanceof", "\\bvar\\b", "\\[\\]\\[\\]\\[\\]"};
        for (String word : never) {
            CHECKS.due("uses " + word, Pattern.compile(word).matcher(text).find(), false);
        }
        Matcher imports = Pattern.compile("(?m)^import (.*);$").matcher(text);
        while (imports.find()) {
            CHECKS.due("import " + imports.group(1), imports.group(1).equals("java.util.NoSuchElementException"), true);
        }
        CHECKS.due("signs 10 to 126 alone", text.chars().allMatch(c -> c == 10 || c >= 32 && c < 127), true);
        Matcher bodies = Pattern.compile("(?ms)^( +)[\\w\\[\\] ]+\\([^;{}]*\\)[\\w ]* \\{$.*?^\\1\\}$").matcher(text);
        int methods = 0;
        while (bodies.find()) {
            methods++;
            CHECKS.due("lines of " + bodies.group().split("\n")[0], bodies.group().split("\n").length <= 60, true);
        }
        CHECKS.due("methods seen", methods > 60, true);
    }
}

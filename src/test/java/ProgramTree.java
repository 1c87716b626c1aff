import com.sun.source.tree.CatchTree;
import com.sun.source.tree.ClassTree;
import com.sun.source.tree.CompilationUnitTree;
import com.sun.source.tree.LambdaExpressionTree;
import com.sun.source.tree.MemberReferenceTree;
import com.sun.source.tree.MethodInvocationTree;
import com.sun.source.tree.MethodTree;
import com.sun.source.tree.NewArrayTree;
import com.sun.source.tree.NewClassTree;
import com.sun.source.tree.ThrowTree;
import com.sun.source.tree.TryTree;
import com.sun.source.tree.TypeCastTree;
import com.sun.source.util.JavacTask;
import com.sun.source.util.TreePath;
import com.sun.source.util.TreePathScanner;
import com.sun.source.util.Trees;
import java.nio.file.Path;
import java.util.ArrayList;
import java.util.List;
import java.util.Map;
import java.util.Set;
import java.util.TreeMap;
import java.util.TreeSet;
import javax.lang.model.element.Element;
import javax.lang.model.element.ElementKind;
import javax.tools.JavaCompiler;
import javax.tools.StandardJavaFileManager;
import javax.tools.ToolProvider;

/** What stands in a Java file, as javac reads it: what calls what, and where objects are made. */
final class ProgramTree extends TreePathScanner<Void, Void> {
    /** Of each method and constructor of the file ("Class.name(types)") which of them it calls. */
    final Map<String, Set<String>> calls = new TreeMap<>();
    /** Methods of the library that are called. */
    final Set<String> library = new TreeSet<>();
    /** Where a method that is no constructor makes an object, but for a throw; and of what class. */
    final List<String> made = new ArrayList<>();
    final List<String> thrown = new ArrayList<>();
    final List<String> classes = new ArrayList<>();
    /** Forms that the program does without. */
    final List<String> otherForms = new ArrayList<>();

    private final Trees trees;
    private final Set<Element> own = new java.util.HashSet<>();

    ProgramTree(Path file) throws Exception {
        JavaCompiler compiler = ToolProvider.getSystemJavaCompiler();
        try (StandardJavaFileManager files = compiler.getStandardFileManager(null, null, null)) {
            JavacTask task = (JavacTask) compiler.getTask(null, files, null, List.of("-proc:none"), null,
                files.getJavaFileObjects(file));
            trees = Trees.instance(task);
            Iterable<? extends CompilationUnitTree> units = task.parse();
            task.analyze();
            for (CompilationUnitTree unit : units) {
                new OwnMethods().scan(unit, null);
                scan(unit, null);
            }
        }
    }

    private final class OwnMethods extends TreePathScanner<Void, Void> {
        @Override
        public Void visitMethod(MethodTree method, Void none) {
            own.add(trees.getElement(getCurrentPath()));
            return super.visitMethod(method, none);
        }
    }

    private static String nameOf(Element method) {
        return method.getEnclosingElement().getSimpleName() + "." + method;
    }

    /** The method or constructor that is being read; the class itself in a field's first value. */
    private String here() {
        return isMethod(holder()) ? nameOf(holder()) : holder().getSimpleName().toString();
    }

    private static boolean isMethod(Element e) {
        return e.getKind() == ElementKind.METHOD || e.getKind() == ElementKind.CONSTRUCTOR;
    }

    private Element holder() {
        TreePath path = getCurrentPath();
        while (!(path.getLeaf() instanceof MethodTree) && !(path.getLeaf() instanceof ClassTree)) {
            path = path.getParentPath();
        }
        return trees.getElement(path);
    }

    @Override
    public Void visitClass(ClassTree type, Void none) {
        classes.add(type.getSimpleName().toString());
        return super.visitClass(type, none);
    }

    @Override
    public Void visitMethod(MethodTree method, Void none) {
        calls.computeIfAbsent(nameOf(trees.getElement(getCurrentPath())), k -> new TreeSet<>());
        return super.visitMethod(method, none);
    }

    private void noteCall(Element called) {
        if (own.contains(called)) {
            calls.computeIfAbsent(here(), k -> new TreeSet<>()).add(nameOf(called));
        } else if (called.getKind() == ElementKind.METHOD) {
            library.add(nameOf(called));
        }
    }

    @Override
    public Void visitMethodInvocation(MethodInvocationTree call, Void none) {
        noteCall(trees.getElement(new TreePath(getCurrentPath(), call.getMethodSelect())));
        return super.visitMethodInvocation(call, none);
    }

    @Override
    public Void visitNewClass(NewClassTree made, Void none) {
        noteCall(trees.getElement(getCurrentPath()));
        noteMade(made.getIdentifier().toString());
        return super.visitNewClass(made, none);
    }

    @Override
    public Void visitNewArray(NewArrayTree array, Void none) {
        noteMade("an array");
        return super.visitNewArray(array, none);
    }

    private void noteMade(String what) {
        boolean forThrow = getCurrentPath().getParentPath().getLeaf() instanceof ThrowTree;
        if (!forThrow && holder().getKind() == ElementKind.METHOD) {
            made.add(here() + " makes " + what);
        }
    }

    @Override
    public Void visitThrow(ThrowTree toss, Void none) {
        thrown.add(here() + " " + toss.getExpression());
        return super.visitThrow(toss, none);
    }

    @Override
    public Void visitLambdaExpression(LambdaExpressionTree form, Void none) {
        otherForms.add(here() + " has a lambda");
        return super.visitLambdaExpression(form, none);
    }

    @Override
    public Void visitMemberReference(MemberReferenceTree form, Void none) {
        otherForms.add(here() + " has a method reference");
        return super.visitMemberReference(form, none);
    }

    @Override
    public Void visitTry(TryTree form, Void none) {
        otherForms.add(here() + " has a try");
        return super.visitTry(form, none);
    }

    @Override
    public Void visitCatch(CatchTree form, Void none) {
        otherForms.add(here() + " has a catch");
        return super.visitCatch(form, none);
    }

    @Override
    public Void visitTypeCast(TypeCastTree cast, Void none) {
        if (!cast.getType().toString().equals("int")) {
            otherForms.add(here() + " casts to " + cast.getType());
        }
        return super.visitTypeCast(cast, none);
    }

    /** How many calls stand open at most, this one among them; a chain that comes back to itself is told. */
    int depth(String method, List<String> open, Set<String> rings) {
        if (open.contains(method)) {
            rings.add(method);
            return 0;
        }
        open.add(method);
        int deepest = 0;
        for (String called : calls.getOrDefault(method, Set.of())) {
            deepest = Math.max(deepest, depth(called, open, rings));
        }
        open.remove(open.size() - 1);
        return 1 + deepest;
    }
}

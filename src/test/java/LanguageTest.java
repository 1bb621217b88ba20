import com.sun.source.tree.AssertTree;
import com.sun.source.tree.ClassTree;
import com.sun.source.tree.CompilationUnitTree;
import com.sun.source.tree.ImportTree;
import com.sun.source.tree.LambdaExpressionTree;
import com.sun.source.tree.MemberReferenceTree;
import com.sun.source.tree.MethodInvocationTree;
import com.sun.source.tree.MethodTree;
import com.sun.source.tree.NewClassTree;
import com.sun.source.tree.SynchronizedTree;
import com.sun.source.tree.Tree;
import com.sun.source.tree.TryTree;
import com.sun.source.tree.VariableTree;
import com.sun.source.util.JavacTask;
import com.sun.source.util.SourcePositions;
import com.sun.source.util.TreePathScanner;
import com.sun.source.util.Trees;
import java.io.IOException;
import java.nio.file.Path;
import java.util.HashSet;
import java.util.LinkedHashMap;
import java.util.List;
import java.util.Map;
import java.util.Set;
import java.util.TreeSet;
import javax.lang.model.element.Element;
import javax.lang.model.element.ElementKind;
import javax.lang.model.element.Modifier;
import javax.tools.JavaCompiler;
import javax.tools.StandardJavaFileManager;
import javax.tools.ToolProvider;

/** What of ../shared/LANGUAGE.md can be counted in the program's text. */
public final class LanguageTest {
    private static final Path SOURCE = Path.of("src/main/java/QueryBench.java");
    private static final Set<String> LIBRARY = Set.of(
            "java.lang.String.length", "java.lang.String.charAt", "java.lang.Math.max", "java.lang.Math.min",
            "java.lang.System.arraycopy", "new java.lang.IllegalArgumentException", "new java.lang.IllegalStateException",
            "new java.lang.IndexOutOfBoundsException", "new java.lang.UnsupportedOperationException");

    private final Trees trees;
    private final CompilationUnitTree unit;
    private final Map<Element, Set<Element>> calls = new LinkedHashMap<>();
    private final Set<String> library = new TreeSet<>();
    private final Set<String> notAllowed = new TreeSet<>();
    private int classes;
    private int mostLines;
    private int mostParameters;
    private int mostFields;

    private LanguageTest(Trees trees, CompilationUnitTree unit) {
        this.trees = trees;
        this.unit = unit;
    }

    public static void main(String[] args) throws IOException {
        JavaCompiler compiler = ToolProvider.getSystemJavaCompiler();
        try (StandardJavaFileManager files = compiler.getStandardFileManager(null, null, null)) {
            JavacTask task = (JavacTask) compiler.getTask(null, files, null, null, null, files.getJavaFileObjects(SOURCE));
            CompilationUnitTree unit = task.parse().iterator().next();
            task.analyze();
            LanguageTest test = new LanguageTest(Trees.instance(task), unit);
            test.new Look().scan(unit, null);
            test.judge();
        }
        callsOpenAtOnce();
        Bench.finish();
    }

    /** Rule 8, seen where the deepest calls throw. */
    private static void callsOpenAtOnce() {
        Bench b = new Bench();
        String wide = "[" + "0,".repeat(1000) + "0]";
        open(b, "[".repeat(32) + "\"\\q", () -> b.x.load(0));
        open(b, "{\"a\":".repeat(32) + "{", () -> b.x.load(0));
        open(b, "$" + "[?!@".repeat(16) + "[", () -> b.x.read());
        open(b, "$[?" + "!(".repeat(15) + "!@.a&&@.b=='\\q", () -> b.x.read());
        open(b, "$" + "[?1==count(@".repeat(8) + ".1", () -> b.x.read());
        open(b, "$[?1==" + "length(".repeat(15) + "'\\q", () -> b.x.read());
        b.load(0, "[".repeat(31) + wide + "]".repeat(31));
        b.read("$" + "[?@.x||!@.x&&!@".repeat(16) + "..*..*..*..*..*..*..*..*..*" + "]".repeat(16));
        open(b, "", () -> b.x.run(0));
        b.read("$..*");
        open(b, "", () -> b.x.run(0));
    }

    private static void open(Bench b, String text, Bench.Call call) {
        b.tape(text);
        int open = 0;
        try {
            call.answer();
        } catch (RuntimeException e) {
            for (StackTraceElement each : e.getStackTrace()) {
                open += each.getClassName().startsWith("QueryBench") ? 1 : 0;
            }
        }
        Bench.due("rule 8: under 300 open in " + text + ", not " + open, open > 0 && open < 300, true);
    }

    private void judge() {
        library.removeAll(LIBRARY);
        Bench.due("rule 4: calls of the library that are not in the list", library, Set.of());
        Bench.due("rules 1, 2, 5, 6: what may not be there", notAllowed, Set.of());
        Bench.due("rule 1: private methods with the name of a public one", namesTwice(), Set.of());
        Bench.due("rule 11: at most seven parameters, not " + mostParameters, mostParameters <= 7, true);
        Bench.due("rule 11: at most sixty lines, not " + mostLines, mostLines <= 60, true);
        Bench.due("rule 11: at most twelve classes, not " + classes, classes <= 12, true);
        Bench.due("rule 11: at most twenty fields, not " + mostFields, mostFields <= 20, true);
        for (Element method : calls.keySet()) {
            int depth = depth(method);
            Bench.due("rule 11: " + method + " goes at most eight deep, not " + depth, depth <= 8, true);
        }
    }

    private Set<String> namesTwice() {
        Set<String> twice = new TreeSet<>();
        for (Element a : calls.keySet()) {
            for (Element b : calls.keySet()) {
                boolean methods = a.getKind() == ElementKind.METHOD && b.getKind() == ElementKind.METHOD;
                boolean one = a.getModifiers().contains(Modifier.PUBLIC) && b.getModifiers().contains(Modifier.PRIVATE);
                if (methods && one && a.getSimpleName().equals(b.getSimpleName())) {
                    twice.add(a.getSimpleName().toString());
                }
            }
        }
        return twice;
    }

    /** How many methods are open at most from this one on; all that call one another in a ring are one. */
    private int depth(Element method) {
        Set<Element> behind = reached(method);
        int most = 0;
        for (Element inRing : behind) {
            if (inRing == method || reached(inRing).contains(method)) {
                for (Element next : calls.get(inRing)) {
                    if (!reached(next).contains(method)) {
                        most = Math.max(most, depth(next));
                    }
                }
            }
        }
        return most + 1;
    }

    /** The method and all that it comes to. */
    private Set<Element> reached(Element method) {
        Set<Element> reached = new HashSet<>(Set.of(method));
        boolean more = true;
        while (more) {
            more = false;
            for (Element each : List.copyOf(reached)) {
                more |= reached.addAll(calls.get(each));
            }
        }
        return reached;
    }

    /** Goes through the text and notes what is counted. */
    private final class Look extends TreePathScanner<Void, Void> {
        private Element method;

        @Override
        public Void visitImport(ImportTree tree, Void none) {
            notAllowed.add(tree.toString());
            return super.visitImport(tree, none);
        }

        @Override
        public Void visitClass(ClassTree tree, Void none) {
            classes++;
            int fields = 0;
            for (Tree member : tree.getMembers()) {
                if (member instanceof VariableTree field) {
                    Set<Modifier> modifiers = field.getModifiers().getFlags();
                    fields += modifiers.contains(Modifier.STATIC) ? 0 : 1;
                    if (modifiers.contains(Modifier.STATIC) && !modifiers.contains(Modifier.FINAL)) {
                        notAllowed.add("static " + field.getName());
                    }
                } else if (member.getKind() == Tree.Kind.BLOCK) {
                    notAllowed.add("block in " + tree.getSimpleName());
                }
            }
            mostFields = Math.max(mostFields, fields);
            return super.visitClass(tree, none);
        }

        @Override
        public Void visitMethod(MethodTree tree, Void none) {
            method = trees.getElement(getCurrentPath());
            calls.computeIfAbsent(method, m -> new HashSet<>());
            mostParameters = Math.max(mostParameters, tree.getParameters().size());
            SourcePositions places = trees.getSourcePositions();
            long first = unit.getLineMap().getLineNumber(Math.max(0, places.getStartPosition(unit, tree)));
            long last = unit.getLineMap().getLineNumber(Math.max(0, places.getEndPosition(unit, tree)));
            mostLines = Math.max(mostLines, (int) (last - first + 1));
            return super.visitMethod(tree, none);
        }

        @Override
        public Void visitMethodInvocation(MethodInvocationTree tree, Void none) {
            Element called = trees.getElement(getCurrentPath());
            // super() of a constructor is not written in the text.
            if (!called.getSimpleName().contentEquals("<init>")) {
                note(called, called.getEnclosingElement() + "." + called.getSimpleName());
            }
            return super.visitMethodInvocation(tree, none);
        }

        @Override
        public Void visitNewClass(NewClassTree tree, Void none) {
            Element called = trees.getElement(getCurrentPath());
            note(called, "new " + called.getEnclosingElement());
            return super.visitNewClass(tree, none);
        }

        private void note(Element called, String name) {
            if (!called.getEnclosingElement().toString().startsWith("QueryBench")) {
                library.add(name);
            } else if (method != null) {
                calls.computeIfAbsent(called, m -> new HashSet<>());
                calls.get(method).add(called);
            }
        }

        @Override
        public Void visitLambdaExpression(LambdaExpressionTree tree, Void none) {
            notAllowed.add(tree.toString());
            return super.visitLambdaExpression(tree, none);
        }

        @Override
        public Void visitMemberReference(MemberReferenceTree tree, Void none) {
            notAllowed.add(tree.toString());
            return super.visitMemberReference(tree, none);
        }

        @Override
        public Void visitTry(TryTree tree, Void none) {
            // Rule 6 allows some; the program has none.
            notAllowed.add(tree.toString());
            return super.visitTry(tree, none);
        }

        @Override
        public Void visitSynchronized(SynchronizedTree tree, Void none) {
            notAllowed.add(tree.toString());
            return super.visitSynchronized(tree, none);
        }

        @Override
        public Void visitAssert(AssertTree tree, Void none) {
            notAllowed.add(tree.toString());
            return super.visitAssert(tree, none);
        }
    }
}

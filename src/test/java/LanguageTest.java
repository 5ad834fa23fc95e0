import com.sun.source.tree.AssertTree;
import com.sun.source.tree.BlockTree;
import com.sun.source.tree.ClassTree;
import com.sun.source.tree.CompilationUnitTree;
import com.sun.source.tree.ExpressionTree;
import com.sun.source.tree.ForLoopTree;
import com.sun.source.tree.IdentifierTree;
import com.sun.source.tree.ImportTree;
import com.sun.source.tree.LambdaExpressionTree;
import com.sun.source.tree.LineMap;
import com.sun.source.tree.LiteralTree;
import com.sun.source.tree.MemberReferenceTree;
import com.sun.source.tree.MethodInvocationTree;
import com.sun.source.tree.MethodTree;
import com.sun.source.tree.NewClassTree;
import com.sun.source.tree.SynchronizedTree;
import com.sun.source.tree.ThrowTree;
import com.sun.source.tree.Tree;
import com.sun.source.tree.TryTree;
import com.sun.source.tree.VariableTree;
import com.sun.source.util.JavacTask;
import com.sun.source.util.SourcePositions;
import com.sun.source.util.TreePath;
import com.sun.source.util.TreePathScanner;
import com.sun.source.util.Trees;
import java.io.IOException;
import java.nio.file.Path;
import java.util.ArrayDeque;
import java.util.Deque;
import java.util.HashMap;
import java.util.List;
import java.util.Map;
import java.util.Set;
import java.util.TreeSet;
import javax.lang.model.element.Element;
import javax.lang.model.element.Modifier;
import javax.tools.JavaCompiler;
import javax.tools.StandardJavaFileManager;
import javax.tools.ToolProvider;

/** The rules of LANGUAGE.md that can be read off the source of the class. */
public final class LanguageTest {
    private static final Check check = new Check("LanguageTest");
    private static final Path SOURCE = Path.of("src", "main", "java", "LinkHost.java");
    private static final int MOST_LINES = 60;
    private static final int MOST_PARAMETERS = 7;
    private static final int MOST_CLASSES = 12;
    private static final int MOST_FIELDS = 20;
    private static final int MOST_CALLS_OPEN = 8;
    private static final Set<String> EXCEPTIONS = Set.of("IllegalStateException",
            "IllegalArgumentException", "IndexOutOfBoundsException");
    /** What the class needs of the library, all of which rule 4 lists. */
    private static final Set<String> LIBRARY = Set.of("ArrayList.ArrayList", "ArrayList.add",
            "ArrayList.get", "ArrayList.remove", "ArrayList.size", "ArrayList.isEmpty", "Math.max",
            "Math.min", "Math.floorMod", "Object.Object", "IllegalStateException."
            + "IllegalStateException", "IllegalArgumentException.IllegalArgumentException",
            "IndexOutOfBoundsException.IndexOutOfBoundsException");

    public static void main(String[] args) throws IOException {
        JavaCompiler compiler = ToolProvider.getSystemJavaCompiler();
        try (StandardJavaFileManager files = compiler.getStandardFileManager(null, null, null)) {
            List<String> options = List.of("--release", "17", "-proc:none");
            JavacTask task = (JavacTask) compiler.getTask(null, files, null, options, null,
                    files.getJavaFileObjects(SOURCE));
            CompilationUnitTree unit = task.parse().iterator().next();
            task.analyze();
            Reader reader = new Reader(Trees.instance(task), unit);
            reader.scan(unit, null);
            oneFileOneClass(unit, reader);
            callsDoNotGoDeep(reader);
        }
        check.end();
    }

    private static void oneFileOneClass(CompilationUnitTree unit, Reader reader) {
        check.under("one file, without a package line, one public class");
        check.holds("no package line", unit.getPackageName() == null);
        check.due("classes beside each other", unit.getTypeDecls().size(), 1);
        check.under("rule 4: only what stands here");
        for (ImportTree one : unit.getImports()) {
            check.same("import", one.getQualifiedIdentifier().toString(), "java.util.ArrayList");
        }
        check.under("rule 11: the file has at most some twelve classes");
        check.holds(reader.classes + " classes", reader.classes <= MOST_CLASSES);
    }

    private static void callsDoNotGoDeep(Reader reader) {
        check.under("rules 8 and 11: no recursion, calls go at most eight deep");
        for (String method : reader.calls.keySet()) {
            int open = callsOpen(reader.calls, method, new ArrayDeque<>());
            check.holds(method + ": " + open + " open at once", open <= MOST_CALLS_OPEN);
        }
    }

    /** How many calls stand open at once in that method, itself and the library's counted. */
    private static int callsOpen(Map<String, Set<String>> calls, String method,
            Deque<String> above) {
        if (above.contains(method)) {
            check.holds(method + " is not recursive", false);
            return 0;
        }
        above.push(method);
        int most = 0;
        for (String called : calls.getOrDefault(method, Set.of())) {
            most = Math.max(most, callsOpen(calls, called, above));
        }
        above.pop();
        return most + 1;
    }

    /** Goes through the source once and checks what can be seen at each place by itself. */
    private static final class Reader extends TreePathScanner<Void, Void> {
        private final Trees trees;
        private final CompilationUnitTree unit;
        /** For each method, by its class and name, the methods that it calls. */
        private final Map<String, Set<String>> calls = new HashMap<>();
        private int classes = 0;
        private MethodTree method = null;
        private String methodName = "";

        Reader(Trees trees, CompilationUnitTree unit) {
            this.trees = trees;
            this.unit = unit;
        }

        @Override
        public Void visitClass(ClassTree node, Void unused) {
            classes++;
            int fields = 0;
            for (Tree member : node.getMembers()) {
                if (member instanceof VariableTree field) {
                    fields += look(field) ? 0 : 1;
                }
                check.under("rule 5: no static initialiser block");
                check.holds("no block in " + node.getSimpleName(), !(member instanceof BlockTree));
            }
            check.under("rule 11: a class has some twenty fields beside its constants");
            check.holds(node.getSimpleName() + ": " + fields + " fields", fields <= MOST_FIELDS);
            return super.visitClass(node, unused);
        }

        /** Whether the field is a constant. */
        private boolean look(VariableTree field) {
            Set<Modifier> modifiers = field.getModifiers().getFlags();
            boolean isStatic = modifiers.contains(Modifier.STATIC);
            check.under("rule 1: no other public, protected or package-visible member");
            check.holds(field.getName() + " is private", modifiers.contains(Modifier.PRIVATE));
            if (isStatic) {
                check.under("rule 5: static fields are final, constants written out");
                check.holds(field.getName() + " is final", modifiers.contains(Modifier.FINAL));
                check.holds(field.getName() + " is a number",
                        field.getInitializer() instanceof LiteralTree);
            }
            return isStatic;
        }

        @Override
        public Void visitMethod(MethodTree node, Void unused) {
            MethodTree outerMethod = method;
            String outerName = methodName;
            method = node;
            methodName = nameOf(trees.getElement(getCurrentPath()));
            calls.computeIfAbsent(methodName, name -> new TreeSet<>());
            check.under("rule 11: methods stay short, and take at most seven parameters");
            int lines = linesOf(node);
            check.holds(methodName + ": " + lines + " lines", lines <= MOST_LINES);
            check.holds(methodName + ": parameters",
                    node.getParameters().size() <= MOST_PARAMETERS);
            super.visitMethod(node, unused);
            method = outerMethod;
            methodName = outerName;
            return null;
        }

        private int linesOf(Tree node) {
            SourcePositions positions = trees.getSourcePositions();
            LineMap lines = unit.getLineMap();
            long start = positions.getStartPosition(unit, node);
            long end = positions.getEndPosition(unit, node);
            return end < start ? 0
                    : (int) (lines.getLineNumber(end) - lines.getLineNumber(start)) + 1;
        }

        private static String nameOf(Element element) {
            String name = element.getSimpleName().toString();
            String owner = element.getEnclosingElement().getSimpleName().toString();
            return owner + "." + (name.equals("<init>") ? owner : name);
        }

        private boolean isOwn(Element element) {
            return element.getEnclosingElement().toString().startsWith("LinkHost");
        }

        private void noteCall(TreePath path) {
            Element called = trees.getElement(path);
            String name = nameOf(called);
            check.under("rule 4: only what stands here");
            check.holds(name + " is of the class or of the list", isOwn(called)
                    || LIBRARY.contains(name));
            calls.computeIfAbsent(methodName, key -> new TreeSet<>()).add(name);
        }

        @Override
        public Void visitMethodInvocation(MethodInvocationTree node, Void unused) {
            noteCall(new TreePath(getCurrentPath(), node.getMethodSelect()));
            return super.visitMethodInvocation(node, unused);
        }

        @Override
        public Void visitNewClass(NewClassTree node, Void unused) {
            noteCall(getCurrentPath());
            return super.visitNewClass(node, unused);
        }

        @Override
        public Void visitThrow(ThrowTree node, Void unused) {
            check.under("rule 6: throw new E() or throw new E(\"a written text\")");
            ExpressionTree thrown = node.getExpression();
            check.holds(thrown + " is as written there", thrown instanceof NewClassTree made
                    && made.getIdentifier() instanceof IdentifierTree name
                    && EXCEPTIONS.contains(name.getName().toString()) && isWrittenText(made));
            check.under("rule 6: no throw in a constructor");
            check.holds("no constructor", method != null && method.getReturnType() != null);
            return super.visitThrow(node, unused);
        }

        private static boolean isWrittenText(NewClassTree made) {
            List<? extends ExpressionTree> arguments = made.getArguments();
            return arguments.isEmpty() || arguments.size() == 1
                    && arguments.get(0).getKind() == Tree.Kind.STRING_LITERAL;
        }

        @Override
        public Void visitForLoop(ForLoopTree node, Void unused) {
            check.under("rule 9: every loop has an end that can be seen from its own lines");
            check.holds("a counter against a bound", node.getCondition() != null
                    && node.getInitializer().size() == 1 && node.getUpdate().size() == 1);
            return super.visitForLoop(node, unused);
        }

        @Override
        public Void visitLambdaExpression(LambdaExpressionTree node, Void unused) {
            return refuse("rule 2: no lambda", node);
        }

        @Override
        public Void visitMemberReference(MemberReferenceTree node, Void unused) {
            return refuse("rule 2: no method reference", node);
        }

        @Override
        public Void visitSynchronized(SynchronizedTree node, Void unused) {
            return refuse("rule 6: no synchronized", node);
        }

        @Override
        public Void visitAssert(AssertTree node, Void unused) {
            return refuse("rule 6: no assert", node);
        }

        @Override
        public Void visitTry(TryTree node, Void unused) {
            return refuse("the class has nothing to catch", node);
        }

        private Void refuse(String rule, Tree node) {
            check.under(rule);
            check.holds(node.toString(), false);
            return null;
        }
    }
}

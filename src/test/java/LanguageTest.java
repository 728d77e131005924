import com.sun.source.tree.AssertTree;
import com.sun.source.tree.BlockTree;
import com.sun.source.tree.CatchTree;
import com.sun.source.tree.ClassTree;
import com.sun.source.tree.CompilationUnitTree;
import com.sun.source.tree.LambdaExpressionTree;
import com.sun.source.tree.MemberReferenceTree;
import com.sun.source.tree.MethodInvocationTree;
import com.sun.source.tree.MethodTree;
import com.sun.source.tree.NewArrayTree;
import com.sun.source.tree.NewClassTree;
import com.sun.source.tree.SynchronizedTree;
import com.sun.source.tree.ThrowTree;
import com.sun.source.tree.Tree;
import com.sun.source.tree.TryTree;
import com.sun.source.tree.VariableTree;
import com.sun.source.util.JavacTask;
import com.sun.source.util.SourcePositions;
import com.sun.source.util.TreePath;
import com.sun.source.util.TreePathScanner;
import com.sun.source.util.Trees;
import java.nio.file.Path;
import java.util.HashMap;
import java.util.HashSet;
import java.util.List;
import java.util.Map;
import java.util.Set;
import java.util.TreeSet;
import javax.lang.model.element.Element;
import javax.lang.model.element.ElementKind;
import javax.lang.model.element.Modifier;
import javax.tools.JavaCompiler;
import javax.tools.StandardJavaFileManager;
import javax.tools.ToolProvider;

/** The rules of LANGUAGE.md that a program can look for in src/main/java/StreamEnds.java. */
public final class LanguageTest {
    private static final Path MAIN = Path.of("src/main/java/StreamEnds.java");
    private static final Set<String> LIBRARY = Set.of("Math.max", "Math.min", "Math.abs", "System.arraycopy",
            "Object.<init>", "Enum.<init>");

    private final Map<Element, Set<Element>> callees = new HashMap<>();
    private final Set<String> faults = new TreeSet<>();
    private Trees trees;
    private CompilationUnitTree unit;
    private int classes = 0;

    public static void main(String[] args) throws Exception {
        LanguageTest test = new LanguageTest();
        test.look();
        for (String fault : test.faults) {
            Check.same(fault, 0, 1);
        }
        Check.same("classes in the file", test.classes <= 12 ? 1 : 0, 1);
        Check.end("LanguageTest");
    }

    private void look() throws Exception {
        JavaCompiler compiler = ToolProvider.getSystemJavaCompiler();
        try (StandardJavaFileManager files = compiler.getStandardFileManager(null, null, null)) {
            JavacTask task = (JavacTask) compiler.getTask(null, files, null, null, null, files.getJavaFileObjects(MAIN));
            unit = task.parse().iterator().next();
            task.analyze();
            trees = Trees.instance(task);
            new Scanner().scan(unit, null);
        }
        int deepest = 0;
        for (Element method : callees.keySet()) {
            deepest = Math.max(deepest, depth(method, new HashSet<>()));
        }
        System.out.println("deepest calls: " + deepest + ", classes: " + classes);
        Check.same("calls go at most eight deep, found " + deepest, deepest <= 8 ? 1 : 0, 1);
    }

    private int depth(Element method, Set<Element> above) {
        if (!above.add(method)) {
            faults.add("recursion at " + method);
            return 0;
        }
        int most = 0;
        for (Element callee : callees.getOrDefault(method, Set.of())) {
            most = Math.max(most, depth(callee, above));
        }
        above.remove(method);
        return most + 1;
    }

    private final class Scanner extends TreePathScanner<Void, Element> {
        private void fault(String rule, Tree tree) {
            long at = trees.getSourcePositions().getStartPosition(unit, tree);
            faults.add("line " + unit.getLineMap().getLineNumber(at) + ": " + rule);
        }

        private Element element() {
            return trees.getElement(getCurrentPath());
        }

        @Override
        public Void visitClass(ClassTree tree, Element method) {
            classes++;
            Element self = element();
            boolean inner = self.getEnclosingElement().getKind() == ElementKind.CLASS;
            if (inner && !self.getModifiers().contains(Modifier.STATIC)) {
                fault("2: an inner class is not static", tree);
            }
            int fields = 0;
            for (Tree member : tree.getMembers()) {
                if (member instanceof BlockTree) {
                    fault("5: an initialiser block", member);
                }
                if (member instanceof VariableTree field) {
                    Set<Modifier> how = field.getModifiers().getFlags();
                    fields += how.contains(Modifier.STATIC) ? 0 : 1;
                    if (how.contains(Modifier.STATIC) && !how.contains(Modifier.FINAL)) {
                        fault("5: static state", member);
                    }
                    if (!inner && !how.contains(Modifier.PRIVATE) && !how.contains(Modifier.PUBLIC)) {
                        fault("1: a visible field", member);
                    }
                }
                if (member instanceof MethodTree own && !inner) {
                    Set<Modifier> how = own.getModifiers().getFlags();
                    if (!how.contains(Modifier.PRIVATE) && !how.contains(Modifier.PUBLIC)) {
                        fault("1: a visible method", member);
                    }
                }
            }
            if (fields > 20) {
                fault("11: more than twenty fields", tree);
            }
            return super.visitClass(tree, method);
        }

        @Override
        public Void visitMethod(MethodTree tree, Element method) {
            Element self = element();
            callees.computeIfAbsent(self, k -> new HashSet<>());
            SourcePositions places = trees.getSourcePositions();
            long first = unit.getLineMap().getLineNumber(places.getStartPosition(unit, tree));
            long last = unit.getLineMap().getLineNumber(places.getEndPosition(unit, tree));
            boolean made = first == last && tree.getName().contentEquals("<init>");
            if (!made && last - first + 1 > 60) {
                fault("11: a method of more than sixty lines", tree);
            }
            if (tree.getParameters().size() > 7) {
                fault("11: more than seven parameters", tree);
            }
            if (!tree.getThrows().isEmpty()) {
                fault("6: throws", tree);
            }
            String name = tree.getName().toString();
            if (!self.getModifiers().contains(Modifier.PUBLIC) && FACE.contains(name)) {
                fault("1: a method with the name of a public one, " + name, tree);
            }
            return super.visitMethod(tree, self);
        }

        @Override
        public Void visitMethodInvocation(MethodInvocationTree tree, Element method) {
            Element callee = trees.getElement(new TreePath(getCurrentPath(), tree.getMethodSelect()));
            note(method, callee, tree);
            return super.visitMethodInvocation(tree, method);
        }

        @Override
        public Void visitNewClass(NewClassTree tree, Element method) {
            if (method != null && !method.getSimpleName().contentEquals("<init>")) {
                fault("12: a method makes an object", tree);
            }
            note(method, element(), tree);
            return super.visitNewClass(tree, method);
        }

        @Override
        public Void visitNewArray(NewArrayTree tree, Element method) {
            if (method != null) {
                fault("12: a method makes an array", tree);
            }
            return super.visitNewArray(tree, method);
        }

        private void note(Element method, Element callee, Tree tree) {
            Element owner = callee.getEnclosingElement();
            String name = owner.getSimpleName() + "." + callee.getSimpleName();
            boolean own = trees.getTree(callee) != null || owner.toString().startsWith("StreamEnds");
            if (!own && !LIBRARY.contains(name)) {
                fault("4: the library's " + name, tree);
            }
            if (method != null && own) {
                callees.computeIfAbsent(method, k -> new HashSet<>()).add(callee);
            }
        }

        @Override
        public Void visitThrow(ThrowTree tree, Element method) {
            fault("6: throw", tree);
            return super.visitThrow(tree, method);
        }

        @Override
        public Void visitTry(TryTree tree, Element method) {
            fault("6: try", tree);
            return super.visitTry(tree, method);
        }

        @Override
        public Void visitCatch(CatchTree tree, Element method) {
            fault("6: catch", tree);
            return super.visitCatch(tree, method);
        }

        @Override
        public Void visitAssert(AssertTree tree, Element method) {
            fault("6: assert", tree);
            return super.visitAssert(tree, method);
        }

        @Override
        public Void visitSynchronized(SynchronizedTree tree, Element method) {
            fault("6: synchronized", tree);
            return super.visitSynchronized(tree, method);
        }

        @Override
        public Void visitLambdaExpression(LambdaExpressionTree tree, Element method) {
            fault("2: a lambda", tree);
            return super.visitLambdaExpression(tree, method);
        }

        @Override
        public Void visitMemberReference(MemberReferenceTree tree, Element method) {
            fault("2: a method reference", tree);
            return super.visitMemberReference(tree, method);
        }
    }

    private static final Set<String> FACE = new HashSet<>(List.of("write", "wipe", "fault", "lay", "open", "say", "cry",
            "leave", "quit", "take", "arrive", "lose", "twice", "pass", "drive", "calm", "end", "sample", "span", "known",
            "letter", "byteOf", "cause", "count"));
}

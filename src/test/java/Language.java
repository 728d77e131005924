import com.sun.source.tree.AssertTree;
import com.sun.source.tree.BinaryTree;
import com.sun.source.tree.BlockTree;
import com.sun.source.tree.CatchTree;
import com.sun.source.tree.ClassTree;
import com.sun.source.tree.CompilationUnitTree;
import com.sun.source.tree.CompoundAssignmentTree;
import com.sun.source.tree.DoWhileLoopTree;
import com.sun.source.tree.ExpressionTree;
import com.sun.source.tree.ForLoopTree;
import com.sun.source.tree.IdentifierTree;
import com.sun.source.tree.ImportTree;
import com.sun.source.tree.LambdaExpressionTree;
import com.sun.source.tree.LiteralTree;
import com.sun.source.tree.MemberReferenceTree;
import com.sun.source.tree.MemberSelectTree;
import com.sun.source.tree.MethodInvocationTree;
import com.sun.source.tree.MethodTree;
import com.sun.source.tree.NewArrayTree;
import com.sun.source.tree.NewClassTree;
import com.sun.source.tree.ParenthesizedTree;
import com.sun.source.tree.SynchronizedTree;
import com.sun.source.tree.ThrowTree;
import com.sun.source.tree.Tree;
import com.sun.source.tree.TryTree;
import com.sun.source.tree.TypeCastTree;
import com.sun.source.tree.VariableTree;
import com.sun.source.tree.WhileLoopTree;
import com.sun.source.util.JavacTask;
import com.sun.source.util.SourcePositions;
import com.sun.source.util.TreePath;
import com.sun.source.util.TreePathScanner;
import com.sun.source.util.Trees;
import java.io.IOException;
import java.util.HashMap;
import java.util.HashSet;
import java.util.List;
import java.util.Map;
import java.util.Set;
import java.util.TreeSet;
import javax.lang.model.element.Element;
import javax.lang.model.element.ElementKind;
import javax.lang.model.element.Modifier;
import javax.lang.model.type.ArrayType;
import javax.lang.model.type.TypeKind;
import javax.lang.model.type.TypeMirror;
import javax.tools.JavaFileObject;
import javax.tools.ToolProvider;

/**
 * What breaks a rule of LANGUAGE.md in one source, as far as a program can look for it: each fault begins with the number
 * of the rule. Some rules are read more narrowly than they are written, where StreamEnds needs less than they allow.
 */
final class Language {
    private static final Set<String> FACE = Set.of("write", "wipe", "fault", "lay", "open", "say", "cry", "leave", "quit",
            "take", "arrive", "lose", "twice", "pass", "drive", "calm", "end", "sample", "span", "known", "letter", "byteOf",
            "cause", "count", "BAD", "NO", "FULL", "NONE", "<init>");
    private static final Set<String> LIBRARY = Set.of("Math.max", "Math.min", "Math.abs", "System.arraycopy",
            "Object.<init>", "Enum.<init>");
    private static final Set<String> OWN_OBJECT_METHODS = Set.of("equals", "hashCode", "toString");
    private static final Set<TypeKind> CONSTANTS = Set.of(TypeKind.INT, TypeKind.LONG, TypeKind.BOOLEAN, TypeKind.CHAR);
    private static final int MOST_LINES = 60, MOST_PARAMETERS = 7, MOST_FIELDS = 20, MOST_CLASSES = 12, DEEPEST_CALLS = 8;

    final Set<String> faults = new TreeSet<>();
    int classes = 0;
    int deepest = 0;

    private final Map<Element, Set<Element>> callees = new HashMap<>();
    private final Trees trees;
    private final CompilationUnitTree unit;

    Language(JavaFileObject source) throws IOException {
        JavacTask task = (JavacTask) ToolProvider.getSystemJavaCompiler().getTask(null, null, problem -> {
            if (problem.getKind() == javax.tools.Diagnostic.Kind.ERROR) {
                faults.add("it does not compile: " + problem);
            }
        }, List.of("-proc:none"), null, List.of(source));
        unit = task.parse().iterator().next();
        task.analyze();
        trees = Trees.instance(task);
        new Scanner().scan(unit, null);
        for (Element method : callees.keySet()) {
            deepest = Math.max(deepest, depth(method, new HashSet<>()));
        }
        if (deepest > DEEPEST_CALLS) {
            faults.add("11: calls go more than eight deep, " + deepest);
        }
        if (classes > MOST_CLASSES) {
            faults.add("11: more than twelve classes, " + classes);
        }
    }

    private int depth(Element method, Set<Element> above) {
        if (!above.add(method)) {
            faults.add("8: recursion at " + method);
            return 0;
        }
        int most = 0;
        for (Element callee : callees.getOrDefault(method, Set.of())) {
            most = Math.max(most, depth(callee, above));
        }
        above.remove(method);
        return most + 1;
    }

    private final class Scanner extends TreePathScanner<Void, Element> {
        private void fault(String rule, Tree tree) {
            faults.add(rule + ", line " + line(trees.getSourcePositions().getStartPosition(unit, tree)));
        }

        private void faultIf(boolean broken, String rule, Tree tree) {
            if (broken) {
                fault(rule, tree);
            }
        }

        private long line(long at) {
            return at < 0 ? 0 : unit.getLineMap().getLineNumber(at);
        }

        private Element element() {
            return trees.getElement(getCurrentPath());
        }

        private TypeMirror type(Tree tree) {
            return trees.getTypeMirror(new TreePath(getCurrentPath(), tree));
        }

        private boolean isText(Tree tree) {
            TypeMirror type = type(tree);
            return type != null && type.toString().equals("java.lang.String");
        }

        @Override
        public Void visitCompilationUnit(CompilationUnitTree tree, Element method) {
            faultIf(tree.getPackageName() != null, "1: a package line", tree);
            faultIf(tree.getTypeDecls().size() != 1, "1: more than one class in the file", tree);
            return super.visitCompilationUnit(tree, method);
        }

        @Override
        public Void visitImport(ImportTree tree, Element method) {
            fault("4: an import", tree);
            return super.visitImport(tree, method);
        }

        @Override
        public Void visitClass(ClassTree tree, Element method) {
            classes++;
            Element self = element();
            Set<Modifier> how = self.getModifiers();
            boolean isTop = self.getEnclosingElement().getKind() == ElementKind.PACKAGE;
            faultIf(method != null, "2: a local or anonymous class", tree);
            if (isTop) {
                faultIf(!how.contains(Modifier.PUBLIC) || !how.contains(Modifier.FINAL), "1: the class is not public and final",
                        tree);
            } else {
                faultIf(!how.contains(Modifier.STATIC), "2: an inner class is not static", tree);
                faultIf(how.contains(Modifier.PUBLIC) || how.contains(Modifier.PROTECTED), "1: a visible class inside", tree);
            }
            int fields = 0;
            for (Tree member : tree.getMembers()) {
                faultIf(member instanceof BlockTree, "5: an initialiser block", member);
                if (member instanceof VariableTree field) {
                    fields += isConstant(field, isTop) ? 0 : 1;
                }
            }
            faultIf(fields > MOST_FIELDS, "11: more than twenty fields", tree);
            return super.visitClass(tree, method);
        }

        private boolean isConstant(VariableTree field, boolean isTop) {
            Set<Modifier> how = field.getModifiers().getFlags();
            boolean isStatic = how.contains(Modifier.STATIC);
            TypeMirror type = trees.getTypeMirror(new TreePath(getCurrentPath(), field.getType()));
            faultIf(isStatic && !how.contains(Modifier.FINAL), "5: static state", field);
            faultIf(isStatic && !CONSTANTS.contains(type.getKind()) && !type.toString().equals("java.lang.String"),
                    "5: a static field of another kind", field);
            boolean isSeen = !how.contains(Modifier.PRIVATE);
            faultIf(isTop && isSeen && !FACE.contains(field.getName().toString()), "1: a visible field", field);
            return isStatic;
        }

        @Override
        public Void visitMethod(MethodTree tree, Element method) {
            Element self = element();
            callees.computeIfAbsent(self, k -> new HashSet<>());
            SourcePositions places = trees.getSourcePositions();
            long lines = line(places.getEndPosition(unit, tree)) - line(places.getStartPosition(unit, tree)) + 1;
            faultIf(lines > MOST_LINES, "11: a method of more than sixty lines", tree);
            faultIf(tree.getParameters().size() > MOST_PARAMETERS, "11: more than seven parameters", tree);
            faultIf(!tree.getThrows().isEmpty(), "6: throws", tree);
            String name = tree.getName().toString();
            boolean isOfFace = FACE.contains(name) && !name.equals("<init>");
            Set<Modifier> how = self.getModifiers();
            boolean isTop = self.getEnclosingElement().getEnclosingElement().getKind() == ElementKind.PACKAGE;
            faultIf(isOfFace && !how.contains(Modifier.PUBLIC), "1: a method with the name of a public one", tree);
            faultIf(isTop && !how.contains(Modifier.PRIVATE) && !FACE.contains(name), "1: a visible method", tree);
            faultIf(OWN_OBJECT_METHODS.contains(name), "6: an own equals, hashCode or toString", tree);
            faultIf(how.contains(Modifier.NATIVE), "4: a native method", tree);
            if (tree.getReturnType() != null) {
                faultIf(!isAllowed(type(tree.getReturnType())), "3: the type of an answer", tree);
            }
            return super.visitMethod(tree, self);
        }

        @Override
        public Void visitVariable(VariableTree tree, Element method) {
            faultIf(!isAllowed(element().asType()), "3: the type of a variable", tree);
            return super.visitVariable(tree, method);
        }

        /** Numbers, truths, own classes and texts; rows of these; and tables of numbers. */
        private boolean isAllowed(TypeMirror type) {
            if (type.getKind() == TypeKind.ARRAY) {
                TypeMirror part = ((ArrayType) type).getComponentType();
                if (part.getKind() == TypeKind.ARRAY) {
                    TypeMirror number = ((ArrayType) part).getComponentType();
                    return number.getKind().isPrimitive() && number.getKind() != TypeKind.BOOLEAN;
                }
                return part.getKind().isPrimitive() || part.toString().startsWith("StreamEnds");
            }
            String name = type.toString();
            return type.getKind().isPrimitive() || type.getKind() == TypeKind.VOID || name.startsWith("StreamEnds")
                    || name.equals("java.lang.String") || name.equals("java.lang.StringBuilder");
        }

        @Override
        public Void visitMethodInvocation(MethodInvocationTree tree, Element method) {
            note(method, trees.getElement(new TreePath(getCurrentPath(), tree.getMethodSelect())), tree);
            return super.visitMethodInvocation(tree, method);
        }

        @Override
        public Void visitNewClass(NewClassTree tree, Element method) {
            faultIf(tree.getClassBody() != null, "2: a local or anonymous class", tree);
            faultIf(method != null && !isConstructor(method), "12: a method makes an object", tree);
            note(method, element(), tree);
            return super.visitNewClass(tree, method);
        }

        @Override
        public Void visitNewArray(NewArrayTree tree, Element method) {
            faultIf(method != null && !isConstructor(method), "12: a method makes an array", tree);
            return super.visitNewArray(tree, method);
        }

        private boolean isConstructor(Element method) {
            return method.getKind() == ElementKind.CONSTRUCTOR;
        }

        private void note(Element method, Element callee, Tree tree) {
            boolean own = callee.getEnclosingElement().toString().startsWith("StreamEnds");
            String name = callee.getEnclosingElement().getSimpleName() + "." + callee.getSimpleName();
            faultIf(!own && !LIBRARY.contains(name), "4: the library's " + name, tree);
            if (method != null && own) {
                callees.computeIfAbsent(method, k -> new HashSet<>()).add(callee);
            }
        }

        /** An object may use its own fields while it is made, but not hand itself out. */
        @Override
        public Void visitIdentifier(IdentifierTree tree, Element method) {
            boolean handsOut = tree.getName().contentEquals("this")
                    && !(getCurrentPath().getParentPath().getLeaf() instanceof MemberSelectTree);
            faultIf(handsOut, "12: an object hands itself out", tree);
            return super.visitIdentifier(tree, method);
        }

        @Override
        public Void visitForLoop(ForLoopTree tree, Element method) {
            endIsSeen(tree.getCondition(), tree);
            return super.visitForLoop(tree, method);
        }

        @Override
        public Void visitWhileLoop(WhileLoopTree tree, Element method) {
            endIsSeen(tree.getCondition(), tree);
            return super.visitWhileLoop(tree, method);
        }

        @Override
        public Void visitDoWhileLoop(DoWhileLoopTree tree, Element method) {
            endIsSeen(tree.getCondition(), tree);
            return super.visitDoWhileLoop(tree, method);
        }

        private void endIsSeen(ExpressionTree condition, Tree loop) {
            ExpressionTree bare = condition;
            while (bare instanceof ParenthesizedTree inside) {
                bare = inside.getExpression();
            }
            faultIf(bare == null || bare instanceof LiteralTree, "9: a loop without an end", loop);
        }

        @Override
        public Void visitBinary(BinaryTree tree, Element method) {
            boolean texts = isText(tree.getLeftOperand()) || isText(tree.getRightOperand());
            faultIf(texts && tree.getKind() == Tree.Kind.PLUS, "10: texts joined by +", tree);
            faultIf(texts && tree.getKind() != Tree.Kind.PLUS, "6: == between texts", tree);
            return super.visitBinary(tree, method);
        }

        @Override
        public Void visitCompoundAssignment(CompoundAssignmentTree tree, Element method) {
            faultIf(isText(tree.getVariable()), "10: texts joined by +", tree);
            return super.visitCompoundAssignment(tree, method);
        }

        @Override
        public Void visitTypeCast(TypeCastTree tree, Element method) {
            faultIf(!type(tree.getType()).getKind().isPrimitive(), "6: a cast between classes", tree);
            return super.visitTypeCast(tree, method);
        }

        @Override
        public Void visitThrow(ThrowTree tree, Element method) {
            fault("6: throw", tree);
            return super.visitThrow(tree, method);
        }

        @Override
        public Void visitTry(TryTree tree, Element method) {
            fault("6: try", tree);
            return super.visitTry(tree, method);
        }

        @Override
        public Void visitCatch(CatchTree tree, Element method) {
            fault("6: catch", tree);
            return super.visitCatch(tree, method);
        }

        @Override
        public Void visitAssert(AssertTree tree, Element method) {
            fault("6: assert", tree);
            return super.visitAssert(tree, method);
        }

        @Override
        public Void visitSynchronized(SynchronizedTree tree, Element method) {
            fault("6: synchronized", tree);
            return super.visitSynchronized(tree, method);
        }

        @Override
        public Void visitLambdaExpression(LambdaExpressionTree tree, Element method) {
            fault("2: a lambda", tree);
            return super.visitLambdaExpression(tree, method);
        }

        @Override
        public Void visitMemberReference(MemberReferenceTree tree, Element method) {
            fault("2: a method reference", tree);
            return super.visitMemberReference(tree, method);
        }
    }
}

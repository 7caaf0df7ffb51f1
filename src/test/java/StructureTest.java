import com.sun.source.tree.AssertTree;
import com.sun.source.tree.BinaryTree;
import com.sun.source.tree.BlockTree;
import com.sun.source.tree.ClassTree;
import com.sun.source.tree.CompilationUnitTree;
import com.sun.source.tree.DoWhileLoopTree;
import com.sun.source.tree.ForLoopTree;
import com.sun.source.tree.IdentifierTree;
import com.sun.source.tree.LambdaExpressionTree;
import com.sun.source.tree.LiteralTree;
import com.sun.source.tree.MemberReferenceTree;
import com.sun.source.tree.MemberSelectTree;
import com.sun.source.tree.MethodInvocationTree;
import com.sun.source.tree.MethodTree;
import com.sun.source.tree.NewArrayTree;
import com.sun.source.tree.NewClassTree;
import com.sun.source.tree.SynchronizedTree;
import com.sun.source.tree.ThrowTree;
import com.sun.source.tree.Tree;
import com.sun.source.tree.TryTree;
import com.sun.source.tree.TypeCastTree;
import com.sun.source.tree.VariableTree;
import com.sun.source.tree.WhileLoopTree;
import com.sun.source.util.JavacTask;
import com.sun.source.util.TreePath;
import com.sun.source.util.TreePathScanner;
import com.sun.source.util.Trees;
import java.io.IOException;
import java.nio.file.Path;
import java.util.ArrayList;
import java.util.HashMap;
import java.util.HashSet;
import java.util.List;
import java.util.Map;
import java.util.Set;
import java.util.TreeMap;
import java.util.TreeSet;
import javax.lang.model.element.Element;
import javax.lang.model.element.ElementKind;
import javax.lang.model.element.ExecutableElement;
import javax.lang.model.element.Modifier;
import javax.lang.model.element.TypeElement;
import javax.lang.model.type.ArrayType;
import javax.lang.model.type.TypeKind;
import javax.lang.model.type.TypeMirror;
import javax.tools.JavaCompiler;
import javax.tools.StandardJavaFileManager;
import javax.tools.ToolProvider;

/** The rules of LANGUAGE.md as the compiler sees the class; to be run in the project's root. */
public final class StructureTest {
    private static final Check CHECK = new Check("StructureTest");
    private static final Set<String> LIBRARY = Set.of("java.util.Arrays.fill", "java.lang.Math.max",
            "java.lang.Math.min", "java.lang.Math.abs", "java.lang.System.arraycopy", "java.lang.Object.<init>");
    private static final Set<String> EXCEPTIONS = Set.of("java.lang.IllegalStateException",
            "java.lang.IllegalArgumentException", "java.lang.IndexOutOfBoundsException");
    private static final int LINES_OF_A_METHOD = 60, DEPTH = 8, CLASSES = 12, FIELDS = 20, PARAMETERS = 7;

    /** Collects what is against a rule, by the rule's number, and which method calls which. */
    private static final class Scanner extends TreePathScanner<Void, Void> {
        final Trees trees;
        final CompilationUnitTree unit;
        final Map<String, List<String>> faults = new TreeMap<>();
        final Map<Element, Set<Element>> calls = new HashMap<>();
        final Set<String> face = new HashSet<>();
        int classes = 0;
        Element method;

        Scanner(Trees trees, CompilationUnitTree unit) {
            this.trees = trees;
            this.unit = unit;
        }

        private void need(String rule, boolean isKept, Tree at) {
            List<String> found = faults.computeIfAbsent(rule, key -> new ArrayList<>());
            if (!isKept) {
                found.add("line " + line(trees.getSourcePositions().getStartPosition(unit, at)));
            }
        }

        private long line(long position) {
            return unit.getLineMap().getLineNumber(position);
        }

        private Element element() {
            return trees.getElement(getCurrentPath());
        }

        private TypeMirror type(Tree tree) {
            return trees.getTypeMirror(TreePath.getPath(unit, tree));
        }

        private boolean isInConstructor() {
            return method == null || method.getKind() == ElementKind.CONSTRUCTOR;
        }

        @Override
        public Void visitClass(ClassTree tree, Void none) {
            Element told = element();
            boolean isOuter = told.getEnclosingElement().getKind() == ElementKind.PACKAGE;
            need("2: classes stand in the class", isOuter
                    || told.getEnclosingElement().getKind() == ElementKind.CLASS, tree);
            need("1: classes inside are private and static", isOuter
                    || told.getModifiers().containsAll(Set.of(Modifier.PRIVATE, Modifier.STATIC)), tree);
            int fields = 0;
            for (Element one : told.getEnclosedElements()) {
                fields += one.getKind() == ElementKind.FIELD && !one.getModifiers().contains(Modifier.STATIC) ? 1 : 0;
                if (isOuter && one.getKind() == ElementKind.METHOD && one.getModifiers().contains(Modifier.PUBLIC)) {
                    face.add(one.getSimpleName().toString());
                }
            }
            need("11: fields of a class", fields <= FIELDS, tree);
            classes += isOuter ? 0 : 1;
            return super.visitClass(tree, none);
        }

        @Override
        public Void visitMethod(MethodTree tree, Void none) {
            Element outer = method;
            method = element();
            calls.put(method, new HashSet<>());
            long first = line(trees.getSourcePositions().getStartPosition(unit, tree));
            long last = line(trees.getSourcePositions().getEndPosition(unit, tree));
            need("11: lines of a method", last - first < LINES_OF_A_METHOD, tree);
            need("11: parameters of a method", tree.getParameters().size() <= PARAMETERS, tree);
            boolean isPublic = method.getModifiers().contains(Modifier.PUBLIC);
            need("1: no other method bears the name of a public one",
                    isPublic || !face.contains(method.getSimpleName().toString()), tree);
            super.visitMethod(tree, none);
            method = outer;
            return null;
        }

        @Override
        public Void visitVariable(VariableTree tree, Void none) {
            Element told = element();
            TypeMirror type = told.asType();
            need("3: types", isAllowed(type), tree);
            if (told.getKind() == ElementKind.FIELD && told.getModifiers().contains(Modifier.STATIC)) {
                need("5: static fields are final", told.getModifiers().contains(Modifier.FINAL), tree);
                need("5: static fields are numbers", type.getKind() == TypeKind.INT
                        && tree.getInitializer() != null, tree);
            }
            return super.visitVariable(tree, none);
        }

        private boolean isAllowed(TypeMirror type) {
            TypeMirror inner = type.getKind() == TypeKind.ARRAY ? ((ArrayType) type).getComponentType() : type;
            return inner.getKind().isPrimitive() || inner.toString().startsWith("Throughcoach.");
        }

        @Override
        public Void visitBlock(BlockTree tree, Void none) {
            need("5: no initialiser blocks", method != null, tree);
            return super.visitBlock(tree, none);
        }

        @Override
        public Void visitMethodInvocation(MethodInvocationTree tree, Void none) {
            ExecutableElement called = (ExecutableElement) element();
            TypeElement owner = (TypeElement) called.getEnclosingElement();
            String name = owner.getQualifiedName() + "." + called.getSimpleName();
            boolean isOwn = owner.getQualifiedName().toString().startsWith("Throughcoach");
            need("4: the library", isOwn || LIBRARY.contains(name), tree);
            need("12: a constructor calls no method of the class", !isOwn || !isInConstructor()
                    || called.getKind() == ElementKind.CONSTRUCTOR, tree);
            if (owner.getQualifiedName().contentEquals("java.lang.Math")) {
                need("3: no Math over floats", called.getReturnType().getKind() == TypeKind.INT, tree);
            }
            if (method != null) {
                calls.get(method).add(called);
            }
            return super.visitMethodInvocation(tree, none);
        }

        @Override
        public Void visitNewClass(NewClassTree tree, Void none) {
            boolean isThrown = getCurrentPath().getParentPath().getLeaf() instanceof ThrowTree;
            need("12: objects are made in constructors", isThrown || isInConstructor(), tree);
            need("2: no anonymous classes", tree.getClassBody() == null, tree);
            if (method != null && !isThrown) {
                calls.get(method).add(element());
            }
            return super.visitNewClass(tree, none);
        }

        @Override
        public Void visitIdentifier(IdentifierTree tree, Void none) {
            if (tree.getName().contentEquals("this")) {
                need("12: an object does not hand out itself",
                        getCurrentPath().getParentPath().getLeaf() instanceof MemberSelectTree, tree);
            }
            return super.visitIdentifier(tree, none);
        }

        @Override
        public Void visitNewArray(NewArrayTree tree, Void none) {
            need("12: arrays are made in constructors", isInConstructor(), tree);
            return super.visitNewArray(tree, none);
        }

        @Override
        public Void visitThrow(ThrowTree tree, Void none) {
            boolean isWritten = false;
            if (tree.getExpression() instanceof NewClassTree made) {
                isWritten = EXCEPTIONS.contains(type(made).toString())
                        && made.getArguments().stream().allMatch(one -> one instanceof LiteralTree);
            }
            need("6: what is thrown", isWritten, tree);
            need("6: no throw in a constructor", !isInConstructor(), tree);
            return super.visitThrow(tree, none);
        }

        @Override
        public Void visitBinary(BinaryTree tree, Void none) {
            if (tree.getKind() == Tree.Kind.DIVIDE || tree.getKind() == Tree.Kind.REMAINDER) {
                need("7: only floats are divided", type(tree).getKind() == TypeKind.FLOAT, tree);
            }
            need("10: no texts are joined", type(tree).getKind().isPrimitive(), tree);
            return super.visitBinary(tree, none);
        }

        @Override
        public Void visitTypeCast(TypeCastTree tree, Void none) {
            need("7: no casts among classes", type(tree).getKind().isPrimitive(), tree);
            return super.visitTypeCast(tree, none);
        }

        @Override
        public Void visitForLoop(ForLoopTree tree, Void none) {
            need("9: a loop counts against a bound", tree.getCondition() != null && tree.getUpdate().size() == 1
                    && tree.getInitializer().size() == 1, tree);
            return super.visitForLoop(tree, none);
        }

        @Override
        public Void visitWhileLoop(WhileLoopTree tree, Void none) {
            need("9: no while", false, tree);
            return super.visitWhileLoop(tree, none);
        }

        @Override
        public Void visitDoWhileLoop(DoWhileLoopTree tree, Void none) {
            need("9: no do", false, tree);
            return super.visitDoWhileLoop(tree, none);
        }

        @Override
        public Void visitTry(TryTree tree, Void none) {
            need("6: nothing is caught", false, tree);
            return super.visitTry(tree, none);
        }

        @Override
        public Void visitSynchronized(SynchronizedTree tree, Void none) {
            need("6: no synchronized", false, tree);
            return super.visitSynchronized(tree, none);
        }

        @Override
        public Void visitAssert(AssertTree tree, Void none) {
            need("6: no assert", false, tree);
            return super.visitAssert(tree, none);
        }

        @Override
        public Void visitLambdaExpression(LambdaExpressionTree tree, Void none) {
            need("2: no lambda", false, tree);
            return super.visitLambdaExpression(tree, none);
        }

        @Override
        public Void visitMemberReference(MemberReferenceTree tree, Void none) {
            need("2: no method reference", false, tree);
            return super.visitMemberReference(tree, none);
        }

        /** How many calls stand open at most, the library's too; more than the methods there are for a recursion. */
        int depth(Element from, int limit) {
            int deepest = 0;
            for (Element to : calls.getOrDefault(from, Set.of())) {
                if (limit > 0) {
                    deepest = Math.max(deepest, depth(to, limit - 1));
                }
            }
            return deepest + 1;
        }
    }

    public static void main(String[] args) throws IOException {
        JavaCompiler compiler = ToolProvider.getSystemJavaCompiler();
        StandardJavaFileManager files = compiler.getStandardFileManager(null, null, null);
        JavacTask task = (JavacTask) compiler.getTask(null, files, null, List.of("-proc:none"), null,
                files.getJavaFileObjects(Path.of("src/main/java/Throughcoach.java")));
        List<CompilationUnitTree> units = new ArrayList<>();
        task.parse().forEach(units::add);
        task.analyze();
        Scanner scanner = new Scanner(Trees.instance(task), units.get(0));
        scanner.scan(units.get(0), null);
        scanner.faults.forEach((rule, found) -> CHECK.due(rule, "[]", () -> found));
        CHECK.due("11: classes", true, () -> scanner.classes <= CLASSES);
        for (Element method : new ArrayList<>(scanner.calls.keySet())) {
            CHECK.due("8 and 11: depth of " + method, true, () -> scanner.depth(method, 20) <= DEPTH);
        }
        CHECK.due("the file has one class outside", new TreeSet<>(Set.of("Throughcoach")), () -> {
            Set<String> names = new TreeSet<>();
            units.get(0).getTypeDecls().forEach(one -> names.add(((ClassTree) one).getSimpleName().toString()));
            return names;
        });
        CHECK.due("no package", null, () -> units.get(0).getPackage());
        CHECK.end();
    }
}

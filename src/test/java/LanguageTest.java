import com.sun.source.tree.AssertTree;
import com.sun.source.tree.BinaryTree;
import com.sun.source.tree.BlockTree;
import com.sun.source.tree.ClassTree;
import com.sun.source.tree.CompilationUnitTree;
import com.sun.source.tree.ForLoopTree;
import com.sun.source.tree.InstanceOfTree;
import com.sun.source.tree.LambdaExpressionTree;
import com.sun.source.tree.MemberReferenceTree;
import com.sun.source.tree.MethodInvocationTree;
import com.sun.source.tree.MethodTree;
import com.sun.source.tree.NewArrayTree;
import com.sun.source.tree.NewClassTree;
import com.sun.source.tree.SynchronizedTree;
import com.sun.source.tree.ThrowTree;
import com.sun.source.tree.Tree;
import com.sun.source.tree.TryTree;
import com.sun.source.tree.TypeCastTree;
import com.sun.source.tree.VariableTree;
import com.sun.source.tree.WhileLoopTree;
import com.sun.source.util.JavacTask;
import com.sun.source.util.TreePath;
import com.sun.source.util.TreePathScanner;
import com.sun.source.util.Trees;
import java.io.File;
import java.nio.charset.StandardCharsets;
import java.nio.file.Files;
import java.util.HashMap;
import java.util.HashSet;
import java.util.List;
import java.util.Map;
import java.util.Set;
import java.util.TreeSet;
import javax.lang.model.element.Element;
import javax.lang.model.element.ElementKind;
import javax.lang.model.element.ExecutableElement;
import javax.lang.model.element.Modifier;
import javax.lang.model.type.ArrayType;
import javax.lang.model.type.TypeKind;
import javax.lang.model.type.TypeMirror;
import javax.tools.JavaCompiler;
import javax.tools.StandardJavaFileManager;
import javax.tools.ToolProvider;

/**
 * The rules of LANGUAGE.md that can be read off the text of the class. The test is narrower than the
 * rules where the class needs less: it has no try, no cast among classes, no recursion, and makes
 * objects nowhere but ahead of its first call and for what it throws.
 */
public final class LanguageTest {
    private static final File SOURCE = new File("src/main/java/ShuffleHall.java");
    private static final int MOST_PARAMETERS = 7;
    private static final int MOST_LINES = 60;
    private static final int MOST_CLASSES = 12;
    private static final int MOST_FIELDS = 20;
    private static final int MOST_DEEP = 8;

    private static final Set<String> LIBRARY = Set.of("Integer.bitCount", "Math.abs", "Math.floorMod",
            "Math.max", "Math.min", "System.arraycopy", "Object.<init>");
    private static final Set<String> THROWN = Set.of("IllegalStateException", "IllegalArgumentException",
            "IndexOutOfBoundsException");
    private static final Set<String> CONSTANTS = Set.of("int", "long", "boolean", "char", "java.lang.String",
            "int[]", "long[]", "char[]", "byte[]");
    private static final Set<String> OWN_METHODS_OF_OBJECTS = Set.of("equals", "hashCode", "toString");

    private static final Checks CHECKS = new Checks();

    public static void main(String[] args) throws Exception {
        oneFileOfPlainSigns();
        JavaCompiler compiler = ToolProvider.getSystemJavaCompiler();
        try (StandardJavaFileManager files = compiler.getStandardFileManager(null, null, null)) {
            JavacTask task = (JavacTask) compiler.getTask(null, files, null, List.of("-proc:none"), null,
                    files.getJavaFileObjects(SOURCE));
            CompilationUnitTree unit = task.parse().iterator().next();
            task.analyze();
            CHECKS.same("1: no package", unit.getPackageName() == null, true);
            CHECKS.same("4: imports", unit.getImports().size(), 0);
            CHECKS.same("1: one class", unit.getTypeDecls().size(), 1);
            Reader reader = new Reader(unit, Trees.instance(task));
            reader.scan(unit, null);
            reader.end();
        }
        CHECKS.end("LanguageTest");
    }

    private static void oneFileOfPlainSigns() throws Exception {
        CHECKS.same("1: files", SOURCE.getParentFile().list().length, 1);
        String text = Files.readString(SOURCE.toPath(), StandardCharsets.ISO_8859_1);
        CHECKS.same("4: signs are 1 to 127", text.chars().allMatch(sign -> sign >= 1 && sign <= 127), true);
    }

    /** Goes through all of the class once; what has to be seen as a whole is told at the end. */
    private static final class Reader extends TreePathScanner<Void, Void> {
        private final CompilationUnitTree unit;
        private final Trees trees;
        private final Map<Element, Set<Element>> calls = new HashMap<>();
        private final Set<String> publicNames = new TreeSet<>();
        private final Set<String> privateNames = new TreeSet<>();
        private int classes;

        Reader(CompilationUnitTree unit, Trees trees) {
            this.unit = unit;
            this.trees = trees;
        }

        void end() {
            CHECKS.same("11: at most some twelve classes", classes <= MOST_CLASSES, true);
            Set<String> both = new TreeSet<>(publicNames);
            both.retainAll(privateNames);
            CHECKS.same("1: private methods with public names", both, new TreeSet<>());
            for (Element method : calls.keySet()) {
                CHECKS.same("8, 11: at most eight deep from " + method, deep(method, 0) <= MOST_DEEP, true);
            }
        }

        /** How many calls stand open at once; a method that calls itself comes beyond all bounds. */
        private int deep(Element method, int above) {
            int deepest = 1;
            if (above <= MOST_DEEP) {
                for (Element called : calls.getOrDefault(method, Set.of())) {
                    deepest = Math.max(deepest, 1 + deep(called, above + 1));
                }
            }
            return deepest;
        }

        @Override
        public Void visitClass(ClassTree type, Void none) {
            classes++;
            String name = type.getSimpleName().toString();
            Set<Modifier> modifiers = type.getModifiers().getFlags();
            boolean outer = name.equals("ShuffleHall");
            CHECKS.same("2: a class " + name, type.getKind(), Tree.Kind.CLASS);
            CHECKS.same("1, 2: as it stands, " + name, modifiers, outer
                    ? Set.of(Modifier.PUBLIC, Modifier.FINAL)
                    : Set.of(Modifier.PRIVATE, Modifier.STATIC, Modifier.FINAL));
            CHECKS.same("2: in the public class, " + name,
                    outer || getCurrentPath().getParentPath().getLeaf() instanceof ClassTree, true);
            int fields = 0;
            for (Tree member : type.getMembers()) {
                CHECKS.same("5: no initialiser block in " + name, member instanceof BlockTree, false);
                if (member instanceof VariableTree field) {
                    fields += isStatic(field) ? 0 : 1;
                    field(name, field);
                }
            }
            CHECKS.same("11: some twenty fields in " + name, fields <= MOST_FIELDS, true);
            return super.visitClass(type, none);
        }

        private static boolean isStatic(VariableTree field) {
            return field.getModifiers().getFlags().contains(Modifier.STATIC);
        }

        private void field(String owner, VariableTree field) {
            String name = owner + "." + field.getName();
            Set<Modifier> modifiers = field.getModifiers().getFlags();
            CHECKS.same("1: private " + name, modifiers.contains(Modifier.PRIVATE), true);
            if (isStatic(field)) {
                CHECKS.same("5: final " + name, modifiers.contains(Modifier.FINAL), true);
                CHECKS.same("5: a constant's type, " + name, CONSTANTS.contains(type(field).toString()), true);
            }
        }

        @Override
        public Void visitVariable(VariableTree variable, Void none) {
            CHECKS.same("3: type of " + variable.getName(), isAllowed(type(variable)), true);
            return super.visitVariable(variable, none);
        }

        private TypeMirror type(Tree tree) {
            return trees.getTypeMirror(TreePath.getPath(unit, tree));
        }

        private static boolean isAllowed(TypeMirror type) {
            if (type.getKind() == TypeKind.ARRAY) {
                TypeMirror part = ((ArrayType) type).getComponentType();
                if (part.getKind() == TypeKind.ARRAY) {
                    return ((ArrayType) part).getComponentType().getKind().isPrimitive();
                }
                return isAllowed(part);
            }
            String name = type.toString();
            return type.getKind().isPrimitive() || name.equals("java.lang.String") || name.startsWith("ShuffleHall");
        }

        @Override
        public Void visitMethod(MethodTree method, Void none) {
            String name = method.getName().toString();
            Set<Modifier> modifiers = method.getModifiers().getFlags();
            if (modifiers.contains(Modifier.PUBLIC)) {
                publicNames.add(name);
            }
            if (modifiers.contains(Modifier.PRIVATE) && !name.equals("<init>")) {
                privateNames.add(name);
            }
            CHECKS.same("6: no method " + name, OWN_METHODS_OF_OBJECTS.contains(name), false);
            CHECKS.same("11: parameters of " + name, method.getParameters().size() <= MOST_PARAMETERS, true);
            CHECKS.same("11: lines of " + name, lines(method) <= MOST_LINES, true);
            return super.visitMethod(method, none);
        }

        private long lines(MethodTree method) {
            long start = trees.getSourcePositions().getStartPosition(unit, method);
            long end = trees.getSourcePositions().getEndPosition(unit, method);
            if (end < start) {
                return 0;
            }
            return unit.getLineMap().getLineNumber(end) - unit.getLineMap().getLineNumber(start) + 1;
        }

        /** The method in which the reader is; null in a field's first value. */
        private MethodTree method() {
            for (Tree around : getCurrentPath()) {
                if (around instanceof MethodTree found) {
                    return found;
                }
            }
            return null;
        }

        private boolean isInConstructor() {
            MethodTree around = method();
            return around != null && around.getName().contentEquals("<init>");
        }

        @Override
        public Void visitMethodInvocation(MethodInvocationTree call, Void none) {
            ExecutableElement called = (ExecutableElement) trees.getElement(getCurrentPath());
            String owner = called.getEnclosingElement().toString();
            if (owner.startsWith("ShuffleHall")) {
                CHECKS.same("12: a constructor calls " + called, isInConstructor(), false);
                Element caller = trees.getElement(TreePath.getPath(unit, method()));
                calls.computeIfAbsent(caller, each -> new HashSet<>()).add(called);
            } else {
                String name = owner.substring(owner.lastIndexOf('.') + 1) + "." + called.getSimpleName();
                CHECKS.same("4: the library's " + name, LIBRARY.contains(name), true);
                called.getParameters().forEach(each -> CHECKS.same("3: no double in " + name,
                        each.asType().getKind() == TypeKind.DOUBLE || each.asType().getKind() == TypeKind.FLOAT, false));
            }
            return super.visitMethodInvocation(call, none);
        }

        @Override
        public Void visitNewClass(NewClassTree made, Void none) {
            boolean isThrown = getCurrentPath().getParentPath().getLeaf() instanceof ThrowTree;
            CHECKS.same("2: a class without a name", made.getClassBody() == null, true);
            CHECKS.same("12: made in a call, " + made, isThrown || method() == null || isInConstructor(), true);
            return super.visitNewClass(made, none);
        }

        @Override
        public Void visitNewArray(NewArrayTree made, Void none) {
            CHECKS.same("12: made in a call, " + made, method() == null || isInConstructor(), true);
            return super.visitNewArray(made, none);
        }

        @Override
        public Void visitThrow(ThrowTree thrown, Void none) {
            CHECKS.same("6: no throw in a constructor", isInConstructor(), false);
            boolean isNew = thrown.getExpression() instanceof NewClassTree;
            CHECKS.same("6: throw new, " + thrown, isNew, true);
            if (isNew) {
                NewClassTree made = (NewClassTree) thrown.getExpression();
                CHECKS.same("6: one that the document names, " + thrown,
                        THROWN.contains(made.getIdentifier().toString()), true);
                CHECKS.same("6: with a written text or none, " + thrown, made.getArguments().isEmpty()
                        || made.getArguments().size() == 1
                        && made.getArguments().get(0).getKind() == Tree.Kind.STRING_LITERAL, true);
            }
            return super.visitThrow(thrown, none);
        }

        @Override
        public Void visitBinary(BinaryTree two, Void none) {
            boolean isText = two.getKind() == Tree.Kind.PLUS && type(two).getKind() == TypeKind.DECLARED;
            CHECKS.same("10: texts joined by +, " + two, isText, false);
            return super.visitBinary(two, none);
        }

        @Override
        public Void visitTypeCast(TypeCastTree cast, Void none) {
            CHECKS.same("7: a cast to numbers alone, " + cast, type(cast).getKind().isPrimitive(), true);
            return super.visitTypeCast(cast, none);
        }

        @Override
        public Void visitForLoop(ForLoopTree loop, Void none) {
            CHECKS.same("9: a loop's end is seen", loop.getCondition() != null, true);
            return super.visitForLoop(loop, none);
        }

        @Override
        public Void visitWhileLoop(WhileLoopTree loop, Void none) {
            CHECKS.same("9: a loop's end is seen, " + loop.getCondition(),
                    loop.getCondition().toString().contains("<"), true);
            return super.visitWhileLoop(loop, none);
        }

        @Override
        public Void visitTry(TryTree tree, Void none) {
            return refused("6", tree);
        }

        @Override
        public Void visitSynchronized(SynchronizedTree tree, Void none) {
            return refused("6", tree);
        }

        @Override
        public Void visitAssert(AssertTree tree, Void none) {
            return refused("6", tree);
        }

        @Override
        public Void visitInstanceOf(InstanceOfTree tree, Void none) {
            return refused("6", tree);
        }

        @Override
        public Void visitLambdaExpression(LambdaExpressionTree tree, Void none) {
            return refused("2", tree);
        }

        @Override
        public Void visitMemberReference(MemberReferenceTree tree, Void none) {
            return refused("2", tree);
        }

        private Void refused(String rule, Tree tree) {
            CHECKS.same(rule + ": this stands in the class", tree.toString(), "nothing");
            return null;
        }
    }
}

import com.sun.source.tree.ArrayAccessTree;
import com.sun.source.tree.BinaryTree;
import com.sun.source.tree.ClassTree;
import com.sun.source.tree.CompilationUnitTree;
import com.sun.source.tree.CompoundAssignmentTree;
import com.sun.source.tree.ImportTree;
import com.sun.source.tree.InstanceOfTree;
import com.sun.source.tree.LambdaExpressionTree;
import com.sun.source.tree.LiteralTree;
import com.sun.source.tree.MemberReferenceTree;
import com.sun.source.tree.MethodInvocationTree;
import com.sun.source.tree.MethodTree;
import com.sun.source.tree.NewArrayTree;
import com.sun.source.tree.NewClassTree;
import com.sun.source.tree.SynchronizedTree;
import com.sun.source.tree.ThrowTree;
import com.sun.source.tree.Tree;
import com.sun.source.tree.TryTree;
import com.sun.source.tree.TypeCastTree;
import com.sun.source.tree.VariableTree;
import com.sun.source.util.JavacTask;
import com.sun.source.util.TreePath;
import com.sun.source.util.TreePathScanner;
import com.sun.source.util.Trees;
import java.io.File;
import java.io.IOException;
import java.lang.reflect.Constructor;
import java.lang.reflect.Field;
import java.lang.reflect.Method;
import java.lang.reflect.Modifier;
import java.nio.file.Files;
import java.nio.file.Path;
import java.util.ArrayList;
import java.util.Arrays;
import java.util.HashMap;
import java.util.HashSet;
import java.util.List;
import java.util.Map;
import java.util.Set;
import java.util.TreeSet;
import javax.lang.model.element.Element;
import javax.lang.model.element.ExecutableElement;
import javax.tools.JavaCompiler;
import javax.tools.StandardJavaFileManager;
import javax.tools.ToolProvider;

/** Whether the class has the document's face, and whether its file keeps to the rules of LANGUAGE.md that a program can see. */
public final class LanguageTest {
    private static final Path SOURCE = Path.of("src/main/java/GroupAutomaton.java");
    private static final Path DOCUMENT = Path.of("../shared/DOC.md");
    private static final Set<String> ARRAY_METHODS = Set.of("at", "put", "bitsAt", "putBits");
    private static final Set<String> DIVIDING_METHODS =
            Set.of("quotient", "remainder", "around", "over", "commonDivisor", "density");
    private static final Set<String> LIBRARY = Set.of("Arrays.fill", "Math.floorMod", "Math.abs", "Math.min",
            "String.length", "String.charAt", "Object.<init>");

    private static final Map<String, Set<String>> CALLS = new HashMap<>();
    private static final Set<String> FACE = new HashSet<>();

    private LanguageTest() {
    }

    public static void main(String[] args) throws IOException {
        face();
        classes();
        source();
        depths();
        Checks.end();
    }

    private static void rule(int number, String what, boolean isKept) {
        Checks.due("rule " + number + ": " + what, isKept, true);
    }

    // ---- the face

    private static void face() throws IOException {
        Set<String> due = new TreeSet<>();
        String text = Files.readString(DOCUMENT);
        String block = text.substring(text.indexOf("public final class"), text.indexOf("## Description"));
        for (String line : block.split("\n")) {
            String trimmed = line.trim();
            if (trimmed.startsWith("public ") && trimmed.contains("(")) {
                due.add(trimmed.replaceAll("(int|long|boolean) [a-zA-Z]+([,)])", "$1$2").replace(";", ""));
            }
        }
        Set<String> real = new TreeSet<>();
        for (Method method : GroupAutomaton.class.getDeclaredMethods()) {
            if (!Modifier.isPrivate(method.getModifiers())) {
                FACE.add(method.getName());
                real.add("public " + method.getReturnType() + " " + method.getName()
                        + types(method.getParameterTypes()) + exceptions(method.getExceptionTypes()));
            }
        }
        for (Constructor<?> constructor : GroupAutomaton.class.getDeclaredConstructors()) {
            real.add("public " + constructor.getName() + types(constructor.getParameterTypes()));
        }
        Checks.same("the face", real.toString(), due.toString());
        Checks.due("methods of the face", FACE.size(), 42);
        rule(1, "the class is public and final", GroupAutomaton.class.getModifiers() == (Modifier.PUBLIC | Modifier.FINAL));
    }

    private static String types(Class<?>[] types) {
        List<String> names = new ArrayList<>();
        for (Class<?> type : types) {
            names.add(type.getSimpleName());
        }
        return "(" + String.join(", ", names) + ")";
    }

    private static String exceptions(Class<?>[] types) {
        return types.length == 0 ? "" : " throws " + types(types).replaceAll("[()]", "");
    }

    // ---- the classes

    private static void classes() {
        rule(11, "some twelve classes", GroupAutomaton.class.getDeclaredClasses().length < 12);
        fields(GroupAutomaton.class);
        for (Class<?> inner : GroupAutomaton.class.getDeclaredClasses()) {
            rule(1, inner + " is private and static", Modifier.isPrivate(inner.getModifiers())
                    && Modifier.isStatic(inner.getModifiers()));
            fields(inner);
            for (Method method : inner.getDeclaredMethods()) {
                rule(1, method + " bears no name of the face", !FACE.contains(method.getName()));
            }
        }
        for (Method method : GroupAutomaton.class.getDeclaredMethods()) {
            rule(1, method + " bears no name of the face",
                    Modifier.isPublic(method.getModifiers()) || !FACE.contains(method.getName()));
        }
    }

    private static void fields(Class<?> type) {
        int own = 0;
        for (Field field : type.getDeclaredFields()) {
            int modifiers = field.getModifiers();
            if (Modifier.isStatic(modifiers)) {
                rule(5, field + " is final", Modifier.isFinal(modifiers));
                boolean isNumber = field.getType() == int.class || field.getType() == int[].class;
                rule(5, field + " is a number or numbers", isNumber);
            } else {
                own++;
            }
            rule(1, field + " is no part of the face", type != GroupAutomaton.class || Modifier.isPrivate(modifiers)
                    || field.getName().equals("NONE"));
        }
        rule(11, type + " has some twenty fields", own <= 20);
    }

    // ---- the file

    private static void source() throws IOException {
        JavaCompiler compiler = ToolProvider.getSystemJavaCompiler();
        try (StandardJavaFileManager files = compiler.getStandardFileManager(null, null, null)) {
            JavacTask task = (JavacTask) compiler.getTask(null, files, null, List.of("-proc:none"), null,
                    files.getJavaFileObjects(new File(SOURCE.toString())));
            List<CompilationUnitTree> units = new ArrayList<>();
            task.parse().forEach(units::add);
            task.analyze();
            for (CompilationUnitTree unit : units) {
                new Scanner(Trees.instance(task), unit).scan(unit, null);
            }
        }
        for (char sign : Files.readString(SOURCE).toCharArray()) {
            if (sign > 126) {
                rule(4, "signs up to 126", false);
            }
        }
    }

    private static final class Scanner extends TreePathScanner<Void, Void> {
        private final Trees trees;
        private final CompilationUnitTree unit;
        private String method = "";
        private String methodId = "";

        Scanner(Trees trees, CompilationUnitTree unit) {
            this.trees = trees;
            this.unit = unit;
        }

        private void kept(int number, String what, boolean isKept, Tree tree) {
            long line = unit.getLineMap().getLineNumber(trees.getSourcePositions().getStartPosition(unit, tree));
            rule(number, what + " in line " + line, isKept);
        }

        @Override
        public Void visitImport(ImportTree tree, Void none) {
            String name = tree.getQualifiedIdentifier().toString();
            kept(4, "import", name.equals("java.util.Arrays") || name.equals("java.util.NoSuchElementException"), tree);
            return super.visitImport(tree, none);
        }

        @Override
        public Void visitClass(ClassTree tree, Void none) {
            kept(2, "no class in a method", method.isEmpty(), tree);
            return super.visitClass(tree, none);
        }

        @Override
        public Void visitMethod(MethodTree tree, Void none) {
            Element element = trees.getElement(getCurrentPath());
            method = tree.getName().toString();
            methodId = element.getEnclosingElement().getSimpleName() + "." + element;
            CALLS.putIfAbsent(methodId, new HashSet<>());
            long start = trees.getSourcePositions().getStartPosition(unit, tree);
            long end = trees.getSourcePositions().getEndPosition(unit, tree);
            long lines = unit.getLineMap().getLineNumber(end) - unit.getLineMap().getLineNumber(start) + 1;
            kept(11, "some sixty lines", end < 0 || lines <= 60, tree);
            kept(11, "seven parameters", tree.getParameters().size() <= 7, tree);
            super.visitMethod(tree, none);
            method = "";
            return null;
        }

        @Override
        public Void visitMethodInvocation(MethodInvocationTree tree, Void none) {
            Element element = trees.getElement(new TreePath(getCurrentPath(), tree.getMethodSelect()));
            String owner = element.getEnclosingElement().getSimpleName().toString();
            if (element.getEnclosingElement().toString().startsWith("GroupAutomaton")) {
                CALLS.computeIfAbsent(methodId, id -> new HashSet<>()).add(owner + "." + element);
            } else {
                String name = owner + "." + ((ExecutableElement) element).getSimpleName();
                kept(4, "the library: " + name, LIBRARY.contains(name), tree);
            }
            return super.visitMethodInvocation(tree, none);
        }

        @Override
        public Void visitArrayAccess(ArrayAccessTree tree, Void none) {
            kept(7, "an index that is looked at", ARRAY_METHODS.contains(method), tree);
            return super.visitArrayAccess(tree, none);
        }

        @Override
        public Void visitBinary(BinaryTree tree, Void none) {
            boolean isDivision = tree.getKind() == Tree.Kind.DIVIDE || tree.getKind() == Tree.Kind.REMAINDER;
            boolean isConstant = tree.getRightOperand() instanceof LiteralTree;
            kept(7, "a divisor that is looked at",
                    !isDivision || isConstant || DIVIDING_METHODS.contains(method), tree);
            return super.visitBinary(tree, none);
        }

        @Override
        public Void visitCompoundAssignment(CompoundAssignmentTree tree, Void none) {
            boolean isDivision = tree.getKind() == Tree.Kind.DIVIDE_ASSIGNMENT
                    || tree.getKind() == Tree.Kind.REMAINDER_ASSIGNMENT;
            kept(7, "a divisor that is looked at", !isDivision || tree.getExpression() instanceof LiteralTree, tree);
            return super.visitCompoundAssignment(tree, none);
        }

        @Override
        public Void visitNewArray(NewArrayTree tree, Void none) {
            kept(12, "rows are made with the object", method.isEmpty() || method.equals("<init>"), tree);
            return super.visitNewArray(tree, none);
        }

        @Override
        public Void visitNewClass(NewClassTree tree, Void none) {
            boolean isThrown = getCurrentPath().getParentPath().getLeaf() instanceof ThrowTree;
            kept(12, "objects are made with the object", isThrown || method.isEmpty() || method.equals("<init>"), tree);
            return super.visitNewClass(tree, none);
        }

        @Override
        public Void visitThrow(ThrowTree tree, Void none) {
            kept(6, "throws only in the face", FACE.contains(method), tree);
            return super.visitThrow(tree, none);
        }

        @Override
        public Void visitTypeCast(TypeCastTree tree, Void none) {
            kept(6, "no cast but to double", tree.getType().toString().equals("double"), tree);
            return super.visitTypeCast(tree, none);
        }

        @Override
        public Void visitVariable(VariableTree tree, Void none) {
            String type = String.valueOf(tree.getType());
            kept(3, "type " + type, type.matches("int|long|boolean|char|String|int\\[\\]|long\\[\\]|[A-Z][A-Za-z]+"), tree);
            return super.visitVariable(tree, none);
        }

        @Override
        public Void visitLambdaExpression(LambdaExpressionTree tree, Void none) {
            kept(2, "no lambda", false, tree);
            return super.visitLambdaExpression(tree, none);
        }

        @Override
        public Void visitMemberReference(MemberReferenceTree tree, Void none) {
            kept(2, "no method reference", false, tree);
            return super.visitMemberReference(tree, none);
        }

        @Override
        public Void visitTry(TryTree tree, Void none) {
            kept(6, "no try", false, tree);
            return super.visitTry(tree, none);
        }

        @Override
        public Void visitSynchronized(SynchronizedTree tree, Void none) {
            kept(6, "no synchronized", false, tree);
            return super.visitSynchronized(tree, none);
        }

        @Override
        public Void visitInstanceOf(InstanceOfTree tree, Void none) {
            kept(6, "no instanceof", false, tree);
            return super.visitInstanceOf(tree, none);
        }
    }

    // ---- the calls

    private static void depths() {
        rule(8, "the calls were seen", CALLS.size() > 100);
        for (String method : CALLS.keySet()) {
            List<String> deepest = deepest(method, new ArrayList<>());
            rule(11, "calls at most eight deep: " + deepest, deepest.size() <= 8);
        }
    }

    private static List<String> deepest(String method, List<String> above) {
        if (above.contains(method)) {
            rule(8, "no recursion: " + method, false);
            return above;
        }
        List<String> here = new ArrayList<>(above);
        here.add(method);
        List<String> deepest = here;
        for (String next : CALLS.getOrDefault(method, Set.of())) {
            List<String> deeper = deepest(next, here);
            if (deeper.size() > deepest.size()) {
                deepest = deeper;
            }
        }
        return deepest;
    }

    static {
        Arrays.stream(new String[] {SOURCE.toString(), DOCUMENT.toString()}).forEach(file -> {
            if (!new File(file).exists()) {
                System.out.println(file + " is not there: run the tests from the project's folder");
            }
        });
    }
}

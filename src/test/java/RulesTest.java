import com.sun.source.tree.AssertTree;
import com.sun.source.tree.BinaryTree;
import com.sun.source.tree.ClassTree;
import com.sun.source.tree.CompilationUnitTree;
import com.sun.source.tree.ExpressionTree;
import com.sun.source.tree.LambdaExpressionTree;
import com.sun.source.tree.MemberReferenceTree;
import com.sun.source.tree.MethodInvocationTree;
import com.sun.source.tree.MethodTree;
import com.sun.source.tree.NewArrayTree;
import com.sun.source.tree.NewClassTree;
import com.sun.source.tree.SynchronizedTree;
import com.sun.source.tree.ThrowTree;
import com.sun.source.tree.Tree;
import com.sun.source.tree.TryTree;
import com.sun.source.tree.VariableTree;
import com.sun.source.util.JavacTask;
import com.sun.source.util.TreePath;
import com.sun.source.util.TreePathScanner;
import com.sun.source.util.Trees;
import java.nio.file.Path;
import java.util.HashMap;
import java.util.LinkedHashMap;
import java.util.LinkedHashSet;
import java.util.List;
import java.util.Map;
import java.util.Set;
import javax.lang.model.element.Element;
import javax.lang.model.element.ElementKind;
import javax.lang.model.element.Modifier;
import javax.lang.model.element.TypeElement;
import javax.lang.model.type.TypeKind;
import javax.lang.model.type.TypeMirror;
import javax.tools.JavaCompiler;
import javax.tools.StandardJavaFileManager;
import javax.tools.ToolProvider;

/**
 * The rules of LANGUAGE.md that the compiler's own tree of the source can tell: which library calls there are, how deep
 * calls go, where objects are made, how long methods are. Each complaint names the rule's number.
 */
public final class RulesTest {
    private static final String SOURCE = "src/main/java/PigeonRolls.java";
    private static final int MOST_DEEP = 8;
    private static final int MOST_LINES = 60;
    private static final int MOST_PARAMETERS = 7;
    private static final int MOST_CLASSES = 12;
    private static final int MOST_FIELDS = 20;

    // Rule 4, as far as the class uses it: who needs more of what the rule lists adds it here.
    private static final Set<String> LIBRARY = Set.of(
        "java.lang.String.length", "java.lang.String.charAt", "java.lang.Math.max", "java.lang.Math.min",
        "java.lang.Integer.bitCount", "java.lang.System.arraycopy");
    private static final Set<String> NUMBERS = Set.of("int", "long", "short", "byte", "char", "boolean");
    private static final Set<String> CONSTANTS = Set.of(
        "int", "long", "boolean", "char", "java.lang.String", "int[]", "long[]", "char[]", "byte[]");

    private static int wrong = 0;

    private static void due(int rule, String what, boolean holds) {
        if (!holds) {
            wrong++;
            System.out.println("rule " + rule + " broken: " + what);
        }
    }

    /** One walk through the tree: looks at each part by itself, and gathers who calls whom. */
    private static final class Walk extends TreePathScanner<Void, Void> {
        final Trees trees;
        final CompilationUnitTree unit;
        final Map<Element, Set<Element>> calls = new LinkedHashMap<>();
        int classes = 0;
        Element method = null;

        Walk(Trees trees, CompilationUnitTree unit) {
            this.trees = trees;
            this.unit = unit;
        }

        private String place(Tree t) {
            return ", line " + unit.getLineMap().getLineNumber(trees.getSourcePositions().getStartPosition(unit, t));
        }

        private long lines(Tree t) {
            long begin = trees.getSourcePositions().getStartPosition(unit, t);
            long end = trees.getSourcePositions().getEndPosition(unit, t);
            return end < 0 ? 0 : unit.getLineMap().getLineNumber(end) - unit.getLineMap().getLineNumber(begin) + 1;
        }

        private Element here() {
            return trees.getElement(getCurrentPath());
        }

        private boolean outsideMethods() {
            return method == null || method.getKind() == ElementKind.CONSTRUCTOR;
        }

        @Override
        public Void visitClass(ClassTree t, Void v) {
            classes++;
            Element e = here();
            boolean outer = e.getEnclosingElement().getKind() == ElementKind.PACKAGE;
            due(2, "a class inside is static, with a name" + place(t),
                outer || method == null && !t.getSimpleName().isEmpty() && e.getModifiers().contains(Modifier.STATIC));
            long fields = e.getEnclosedElements().stream()
                .filter(f -> f.getKind() == ElementKind.FIELD && !f.getModifiers().contains(Modifier.STATIC)).count();
            due(11, t.getSimpleName() + " has " + fields + " fields", fields <= MOST_FIELDS);
            return super.visitClass(t, v);
        }

        @Override
        public Void visitMethod(MethodTree t, Void v) {
            Element was = method;
            method = here();
            calls.put(method, new LinkedHashSet<>());
            due(11, method + " has " + lines(t) + " lines", lines(t) <= MOST_LINES);
            due(11, method + " has too many parameters", t.getParameters().size() <= MOST_PARAMETERS);
            super.visitMethod(t, v);
            method = was;
            return null;
        }

        @Override
        public Void visitVariable(VariableTree t, Void v) {
            Element e = here();
            String type = e.asType().toString();
            String bare = type.replace("[]", "");
            boolean allowed = type.equals("java.lang.String")
                || NUMBERS.contains(bare) && !type.endsWith("[][][]")
                || bare.startsWith("PigeonRolls") && !type.endsWith("[][]");
            due(3, "a variable of " + type + place(t), allowed);
            if (e.getKind() == ElementKind.FIELD && e.getModifiers().contains(Modifier.STATIC)) {
                boolean written = e.asType().getKind() != TypeKind.ARRAY
                    || t.getInitializer() instanceof NewArrayTree row && row.getInitializers() != null;
                due(5, t.getName() + " is a constant",
                    e.getModifiers().contains(Modifier.FINAL) && CONSTANTS.contains(type) && written);
            }
            return super.visitVariable(t, v);
        }

        @Override
        public Void visitMethodInvocation(MethodInvocationTree t, Void v) {
            Element called = trees.getElement(new TreePath(getCurrentPath(), t.getMethodSelect()));
            String owner = ((TypeElement) called.getEnclosingElement()).getQualifiedName().toString();
            String name = owner + "." + called.getSimpleName();
            // Each constructor begins with that of Object, which javac writes itself.
            if (!name.equals("java.lang.Object.<init>")) {
                due(4, "the library's " + name + place(t), owner.startsWith("PigeonRolls") || LIBRARY.contains(name));
                if (method != null) {
                    calls.get(method).add(called);
                }
            }
            return super.visitMethodInvocation(t, v);
        }

        // All calls of a run share one room, so no call makes anything: that is done with the object.
        @Override
        public Void visitNewClass(NewClassTree t, Void v) {
            due(12, "an object is made by a call" + place(t), outsideMethods());
            due(3, "an object of another class" + place(t),
                here().getEnclosingElement().toString().startsWith("PigeonRolls"));
            return super.visitNewClass(t, v);
        }

        @Override
        public Void visitNewArray(NewArrayTree t, Void v) {
            due(12, "an array is made by a call" + place(t), outsideMethods());
            return super.visitNewArray(t, v);
        }

        private boolean isText(ExpressionTree t) {
            TypeMirror type = trees.getTypeMirror(new TreePath(getCurrentPath(), t));
            return type != null && type.toString().equals("java.lang.String");
        }

        @Override
        public Void visitBinary(BinaryTree t, Void v) {
            boolean asked = t.getKind() == Tree.Kind.EQUAL_TO || t.getKind() == Tree.Kind.NOT_EQUAL_TO;
            boolean texts = isText(t.getLeftOperand()) || isText(t.getRightOperand());
            due(6, "== of texts" + place(t), !asked || !texts);
            due(10, "texts joined by +" + place(t), asked || !texts);
            return super.visitBinary(t, v);
        }

        @Override
        public Void visitThrow(ThrowTree t, Void v) {
            due(6, "throw" + place(t), false);
            return super.visitThrow(t, v);
        }

        @Override
        public Void visitTry(TryTree t, Void v) {
            due(6, "try" + place(t), false);
            return super.visitTry(t, v);
        }

        @Override
        public Void visitSynchronized(SynchronizedTree t, Void v) {
            due(6, "synchronized" + place(t), false);
            return super.visitSynchronized(t, v);
        }

        @Override
        public Void visitAssert(AssertTree t, Void v) {
            due(6, "assert" + place(t), false);
            return super.visitAssert(t, v);
        }

        @Override
        public Void visitLambdaExpression(LambdaExpressionTree t, Void v) {
            due(2, "lambda" + place(t), false);
            return super.visitLambdaExpression(t, v);
        }

        @Override
        public Void visitMemberReference(MemberReferenceTree t, Void v) {
            due(2, "method reference" + place(t), false);
            return super.visitMemberReference(t, v);
        }
    }

    /** How many calls stand open at most, the library's, too; a method that is open already is a recursion. */
    private static int depth(Element method, Map<Element, Set<Element>> calls, Map<Element, Integer> known) {
        Integer deep = known.get(method);
        if (deep != null) {
            due(8, method + " calls itself", deep > 0);
            return Math.max(1, deep);
        }
        known.put(method, 0);
        int below = 0;
        for (Element called : calls.getOrDefault(method, Set.of())) {
            below = Math.max(below, depth(called, calls, known));
        }
        known.put(method, below + 1);
        return below + 1;
    }

    private static Walk walk(String source) throws Exception {
        JavaCompiler compiler = ToolProvider.getSystemJavaCompiler();
        try (StandardJavaFileManager files = compiler.getStandardFileManager(null, null, null)) {
            JavacTask task = (JavacTask) compiler.getTask(
                null, files, null, List.of("-proc:none"), null, files.getJavaFileObjects(Path.of(source)));
            CompilationUnitTree unit = task.parse().iterator().next();
            task.analyze();
            Walk walk = new Walk(Trees.instance(task), unit);
            walk.scan(new TreePath(unit), null);
            return walk;
        }
    }

    public static void main(String[] args) throws Exception {
        Walk walk = walk(args.length > 0 ? args[0] : SOURCE);
        due(11, walk.classes + " classes", walk.classes > 0 && walk.classes <= MOST_CLASSES);
        Map<Element, Integer> known = new HashMap<>();
        int deepest = 0;
        for (Element method : walk.calls.keySet()) {
            int deep = depth(method, walk.calls, known);
            due(11, method + " goes " + deep + " deep", deep <= MOST_DEEP);
            deepest = Math.max(deepest, deep);
        }
        System.out.println(walk.calls.size() + " methods, calls go " + deepest + " deep, " + wrong + " rules broken");
        if (wrong != 0) {
            System.exit(1);
        }
    }
}

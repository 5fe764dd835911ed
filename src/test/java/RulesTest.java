import com.sun.source.tree.ArrayAccessTree;
import com.sun.source.tree.AssignmentTree;
import com.sun.source.tree.BinaryTree;
import com.sun.source.tree.ClassTree;
import com.sun.source.tree.CompilationUnitTree;
import com.sun.source.tree.CompoundAssignmentTree;
import com.sun.source.tree.DoWhileLoopTree;
import com.sun.source.tree.ExpressionTree;
import com.sun.source.tree.ForLoopTree;
import com.sun.source.tree.IdentifierTree;
import com.sun.source.tree.MethodInvocationTree;
import com.sun.source.tree.MethodTree;
import com.sun.source.tree.NewArrayTree;
import com.sun.source.tree.NewClassTree;
import com.sun.source.tree.ParenthesizedTree;
import com.sun.source.tree.Tree;
import com.sun.source.tree.TypeCastTree;
import com.sun.source.tree.UnaryTree;
import com.sun.source.tree.VariableTree;
import com.sun.source.tree.WhileLoopTree;
import com.sun.source.util.JavacTask;
import com.sun.source.util.TreePath;
import com.sun.source.util.TreePathScanner;
import com.sun.source.util.TreeScanner;
import com.sun.source.util.Trees;
import java.lang.reflect.Array;
import java.lang.reflect.Field;
import java.lang.reflect.Modifier;
import java.nio.file.Files;
import java.nio.file.Path;
import java.util.ArrayList;
import java.util.Collections;
import java.util.EnumSet;
import java.util.HashMap;
import java.util.IdentityHashMap;
import java.util.List;
import java.util.Map;
import java.util.Set;
import java.util.TreeMap;
import java.util.TreeSet;
import javax.lang.model.element.Element;
import javax.lang.model.element.ElementKind;
import javax.lang.model.element.ExecutableElement;
import javax.lang.model.element.TypeElement;
import javax.lang.model.element.VariableElement;
import javax.lang.model.type.ArrayType;
import javax.lang.model.type.TypeKind;
import javax.lang.model.type.TypeMirror;
import javax.tools.JavaCompiler;
import javax.tools.StandardJavaFileManager;
import javax.tools.ToolProvider;

/**
 * The rules of LANGUAGE.md on the class as the compiler reads it; rule 1, and what of 2 and 11 can be asked of the made class, is LanguageTest's,
 * that no call throws is ExtremesTest's. Where the class needs less than a rule leaves, the lesser is looked for. Takes the path of the class's source.
 */
public final class RulesTest extends TreePathScanner<Void, Void> {
    private static final int MOST_LINES = 60, MOST_PARAMETERS = 7, MOST_DEEP = 8, MOST_FIELDS = 20, MOST_CLASSES = 12;
    private static final int MOST_OBJECTS = 100, MOST_ELEMENTS = 5000;

    private static final Set<String> LIBRARY = Set.of("java.lang.Math.min", "java.lang.Math.max", "java.lang.System.arraycopy");

    /** Methods that call themselves or one another; each carries a depth, or how many signs are open. */
    private static final Set<String> RECURSIONS = Set.of("[Sips.run]", "[Tape.readJoined, Tape.readOne]");

    /** What is divided by and is no constant: each is looked at ahead of the division. */
    private static final Set<String> DIVISORS = Set.of("Law.joined: b", "Law.plain: tires", "Numbers.isDrawing: round", "Glass.share: all",
        "Thoughts.byTurns: m", "Thoughts.byTurns: straws");

    private static final Set<Tree.Kind> FORBIDDEN = EnumSet.of(
        Tree.Kind.THROW, Tree.Kind.TRY, Tree.Kind.CATCH, Tree.Kind.SYNCHRONIZED, Tree.Kind.ASSERT, Tree.Kind.LAMBDA_EXPRESSION, Tree.Kind.MEMBER_REFERENCE,
        Tree.Kind.ANNOTATION, Tree.Kind.IMPORT, Tree.Kind.PACKAGE, Tree.Kind.STRING_LITERAL, Tree.Kind.DOUBLE_LITERAL, Tree.Kind.FLOAT_LITERAL,
        Tree.Kind.INSTANCE_OF, Tree.Kind.BINDING_PATTERN, Tree.Kind.PARAMETERIZED_TYPE, Tree.Kind.TYPE_PARAMETER, Tree.Kind.SWITCH_EXPRESSION, Tree.Kind.YIELD,
        Tree.Kind.INTERFACE, Tree.Kind.ENUM, Tree.Kind.RECORD, Tree.Kind.ANNOTATION_TYPE, Tree.Kind.UNION_TYPE, Tree.Kind.INTERSECTION_TYPE);

    private static int wrong = 0;

    private final CompilationUnitTree unit;
    private final Trees trees;
    private final Map<String, Set<String>> calls = new TreeMap<>();
    private int classes = 0;

    private RulesTest(CompilationUnitTree unit, Trees trees) {
        this.unit = unit;
        this.trees = trees;
    }

    public static void main(String[] args) throws Exception {
        JavaCompiler compiler = ToolProvider.getSystemJavaCompiler();
        try (StandardJavaFileManager files = compiler.getStandardFileManager(null, null, null)) {
            JavacTask task = (JavacTask) compiler.getTask(null, files, null, List.of("-proc:none"), null, files.getJavaFileObjects(args[0]));
            CompilationUnitTree unit = task.parse().iterator().next();
            task.analyze();
            RulesTest test = new RulesTest(unit, Trees.instance(task));
            test.scan(unit, null);
            must(unit.getTypeDecls().size() == 1, "one class on the outside");
            must(test.classes <= MOST_CLASSES, "rule 11: " + test.classes + " classes");
            new Graph(test.calls).looked();
        }
        signs(Files.readString(Path.of(args[0])));
        room();
        System.out.println(wrong == 0 ? "the rules hold" : wrong + " faults");
        if (wrong != 0) {
            System.exit(1);
        }
    }

    private static void must(boolean holds, String what) {
        if (!holds) {
            wrong++;
            System.out.println(what);
        }
    }

    private void must(boolean holds, String what, Tree tree) {
        must(holds, what + " in line " + line(tree, true) + ": " + tree.toString().lines().findFirst().orElse(""));
    }

    private long line(Tree tree, boolean first) {
        long place = first ? trees.getSourcePositions().getStartPosition(unit, tree) : trees.getSourcePositions().getEndPosition(unit, tree);
        return unit.getLineMap().getLineNumber(place);
    }

    // ---- where a tree stands

    private MethodTree method() {
        for (TreePath path = getCurrentPath(); path != null; path = path.getParentPath()) {
            if (path.getLeaf() instanceof MethodTree) {
                return (MethodTree) path.getLeaf();
            }
        }
        return null;
    }

    private boolean isInLoop() {
        for (TreePath path = getCurrentPath(); path != null; path = path.getParentPath()) {
            Tree.Kind kind = path.getLeaf().getKind();
            if (kind == Tree.Kind.FOR_LOOP || kind == Tree.Kind.WHILE_LOOP || kind == Tree.Kind.DO_WHILE_LOOP) {
                return true;
            }
        }
        return false;
    }

    /** Field initialisers belong to their class's constructors. */
    private String where() {
        MethodTree method = method();
        TypeElement owner = null;
        for (TreePath path = getCurrentPath(); path != null && owner == null; path = path.getParentPath()) {
            if (path.getLeaf() instanceof ClassTree) {
                owner = (TypeElement) trees.getElement(path);
            }
        }
        return (owner == null ? "?" : owner.getSimpleName()) + "." + (method == null ? "<init>" : method.getName());
    }

    private boolean isMaking() {
        MethodTree method = method();
        return method == null || method.getName().contentEquals("<init>");
    }

    private Element element(Tree tree) {
        return trees.getElement(new TreePath(getCurrentPath(), tree));
    }

    private static boolean isOwn(Element element) {
        Element at = element;
        while (at != null && at.getKind() != ElementKind.PACKAGE) {
            if (at.getSimpleName().contentEquals("TwoStraws")) {
                return true;
            }
            at = at.getEnclosingElement();
        }
        return false;
    }

    // ---- the rules, tree by tree

    @Override
    public Void scan(Tree tree, Void p) {
        if (tree != null) {
            must(!FORBIDDEN.contains(tree.getKind()), "rules 2 to 6: " + tree.getKind(), tree);
        }
        return super.scan(tree, p);
    }

    @Override
    public Void visitClass(ClassTree tree, Void p) {
        classes++;
        Element element = trees.getElement(getCurrentPath());
        ElementKind around = element.getEnclosingElement().getKind();
        must(around == ElementKind.PACKAGE || around == ElementKind.CLASS && element.getModifiers().contains(javax.lang.model.element.Modifier.STATIC),
            "rule 2: a class that is no static one of the class", tree);
        must(tree.getExtendsClause() == null && tree.getImplementsClause().isEmpty(), "rule 2: kinds", tree);
        int fields = 0;
        for (Tree member : tree.getMembers()) {
            must(member.getKind() != Tree.Kind.BLOCK, "rule 5: an initialiser block", member);
            if (member instanceof VariableTree && !((VariableTree) member).getModifiers().getFlags().contains(javax.lang.model.element.Modifier.STATIC)) {
                fields++;
            }
        }
        must(fields <= MOST_FIELDS, "rule 11: " + fields + " fields", tree);
        return super.visitClass(tree, p);
    }

    @Override
    public Void visitVariable(VariableTree tree, Void p) {
        VariableElement element = (VariableElement) trees.getElement(getCurrentPath());
        must(isPlain(element.asType(), true), "rule 3: " + element.asType(), tree);
        Set<javax.lang.model.element.Modifier> flags = element.getModifiers();
        if (flags.contains(javax.lang.model.element.Modifier.STATIC)) {
            boolean isRow = element.asType().getKind() == TypeKind.ARRAY;
            boolean isWritten = isRow ? tree.getInitializer() instanceof NewArrayTree && ((NewArrayTree) tree.getInitializer()).getInitializers() != null
                : element.getConstantValue() != null;
            must(flags.contains(javax.lang.model.element.Modifier.FINAL) && isWritten, "rule 5: a static field that is no constant", tree);
        }
        return super.visitVariable(tree, p);
    }

    /** int, long, boolean and the class's own; rows of one dimension of these. */
    private static boolean isPlain(TypeMirror type, boolean mayBeRow) {
        switch (type.getKind()) {
            case INT: case LONG: case BOOLEAN: return true;
            case ARRAY: return mayBeRow && isPlain(((ArrayType) type).getComponentType(), false);
            case DECLARED: return type.toString().startsWith("TwoStraws");
            default: return false;
        }
    }

    @Override
    public Void visitMethod(MethodTree tree, Void p) {
        ExecutableElement element = (ExecutableElement) trees.getElement(getCurrentPath());
        calls.computeIfAbsent(where(), k -> new TreeSet<>());
        TypeMirror answer = element.getReturnType();
        must(answer.getKind() == TypeKind.VOID || isPlain(answer, true), "rule 3: " + answer, tree);
        must(tree.getParameters().size() <= MOST_PARAMETERS, "rule 11: parameters", tree);
        must(line(tree, false) - line(tree, true) < MOST_LINES, "rule 11: lines", tree);
        must(!Set.of("equals", "hashCode", "toString", "finalize", "clone").contains(tree.getName().toString()), "rule 6: " + tree.getName(), tree);
        return super.visitMethod(tree, p);
    }

    @Override
    public Void visitMethodInvocation(MethodInvocationTree tree, Void p) {
        Element called = element(tree.getMethodSelect());
        if (called.getSimpleName().contentEquals("<init>")) {
            return super.visitMethodInvocation(tree, p);
        }
        String owner = called.getEnclosingElement().toString();
        if (isOwn(called)) {
            calls.computeIfAbsent(where(), k -> new TreeSet<>()).add(called.getEnclosingElement().getSimpleName() + "." + called.getSimpleName());
        } else {
            String name = owner + "." + called.getSimpleName();
            must(LIBRARY.contains(name), "rule 4: " + name, tree);
            calls.computeIfAbsent(where(), k -> new TreeSet<>()).add(name);
        }
        return super.visitMethodInvocation(tree, p);
    }

    @Override
    public Void visitNewClass(NewClassTree tree, Void p) {
        Element made = trees.getElement(getCurrentPath());
        must(tree.getClassBody() == null && isOwn(made), "rule 2 or 3: what is made", tree);
        must(isMaking(), "rule 12: an object that is made by a call", tree);
        calls.computeIfAbsent(where(), k -> new TreeSet<>()).add(made.getEnclosingElement().getSimpleName() + ".<init>");
        return super.visitNewClass(tree, p);
    }

    @Override
    public Void visitNewArray(NewArrayTree tree, Void p) {
        must(isMaking() && !isInLoop(), "rule 12: a row that is made by a call", tree);
        for (ExpressionTree length : tree.getDimensions()) {
            constant(length, "rule 7: a length that is no constant");
        }
        return super.visitNewArray(tree, p);
    }

    /** Every name in it is a constant's. */
    private void constant(ExpressionTree tree, String fault) {
        TreePath here = getCurrentPath();
        new TreeScanner<Void, Void>() {
            @Override
            public Void visitIdentifier(IdentifierTree name, Void p) {
                Element element = trees.getElement(TreePath.getPath(unit, name));
                must(element instanceof VariableElement ? ((VariableElement) element).getConstantValue() != null : element instanceof TypeElement, fault, name);
                return null;
            }

            @Override
            public Void visitMethodInvocation(MethodInvocationTree call, Void p) {
                must(false, fault, call);
                return null;
            }
        }.scan(tree, null);
        must(here == getCurrentPath(), "the path is where it was");
    }

    @Override
    public Void visitBinary(BinaryTree tree, Void p) {
        if (tree.getKind() == Tree.Kind.DIVIDE || tree.getKind() == Tree.Kind.REMAINDER) {
            divisor(tree.getRightOperand());
        }
        return super.visitBinary(tree, p);
    }

    @Override
    public Void visitCompoundAssignment(CompoundAssignmentTree tree, Void p) {
        if (tree.getKind() == Tree.Kind.DIVIDE_ASSIGNMENT || tree.getKind() == Tree.Kind.REMAINDER_ASSIGNMENT) {
            divisor(tree.getExpression());
        }
        written(tree.getVariable());
        return super.visitCompoundAssignment(tree, p);
    }

    private void divisor(ExpressionTree tree) {
        if (tree.getKind() == Tree.Kind.INT_LITERAL) {
            must(!tree.toString().equals("0"), "rule 7: a divisor of 0", tree);
            return;
        }
        must(DIVISORS.contains(where() + ": " + tree), "rule 7: a divisor that RulesTest does not know (" + where() + ": " + tree + ")", tree);
    }

    @Override
    public Void visitAssignment(AssignmentTree tree, Void p) {
        written(tree.getVariable());
        return super.visitAssignment(tree, p);
    }

    @Override
    public Void visitUnary(UnaryTree tree, Void p) {
        if (EnumSet.of(Tree.Kind.POSTFIX_INCREMENT, Tree.Kind.POSTFIX_DECREMENT, Tree.Kind.PREFIX_INCREMENT, Tree.Kind.PREFIX_DECREMENT).contains(tree.getKind())) {
            written(tree.getExpression());
        }
        return super.visitUnary(tree, p);
    }

    private void written(ExpressionTree target) {
        if (target instanceof ArrayAccessTree) {
            Element row = element(((ArrayAccessTree) target).getExpression());
            must(row != null && !row.getModifiers().contains(javax.lang.model.element.Modifier.STATIC), "rule 5: a static row that is changed", target);
        }
    }

    @Override
    public Void visitTypeCast(TypeCastTree tree, Void p) {
        must(trees.getTypeMirror(new TreePath(getCurrentPath(), tree.getType())).getKind().isPrimitive(), "rule 7: a cast that could fail", tree);
        return super.visitTypeCast(tree, p);
    }

    @Override
    public Void visitForLoop(ForLoopTree tree, Void p) {
        must(tree.getCondition() != null && !tree.getInitializer().isEmpty() && tree.getUpdate().size() == 1, "rule 9: a loop without a counter", tree);
        return super.visitForLoop(tree, p);
    }

    @Override
    public Void visitWhileLoop(WhileLoopTree tree, Void p) {
        must(((ParenthesizedTree) tree.getCondition()).getExpression().toString().startsWith("came < n "), "rule 9: a loop that RulesTest does not know", tree);
        return super.visitWhileLoop(tree, p);
    }

    @Override
    public Void visitDoWhileLoop(DoWhileLoopTree tree, Void p) {
        must(false, "rule 9: a loop that RulesTest does not know", tree);
        return super.visitDoWhileLoop(tree, p);
    }

    // ---- rules 8 and 11: who calls whom

    private static final class Graph {
        private final Map<String, Set<String>> calls;
        private final Map<String, Set<String>> reached = new HashMap<>();

        Graph(Map<String, Set<String>> calls) {
            this.calls = calls;
            for (String one : calls.keySet()) {
                Set<String> all = new TreeSet<>();
                List<String> next = new ArrayList<>(calls.get(one));
                while (!next.isEmpty()) {
                    String at = next.remove(next.size() - 1);
                    if (all.add(at)) {
                        next.addAll(calls.getOrDefault(at, Set.of()));
                    }
                }
                reached.put(one, all);
            }
        }

        private boolean together(String one, String other) {
            return reached.getOrDefault(one, Set.of()).contains(other) && reached.getOrDefault(other, Set.of()).contains(one);
        }

        void looked() {
            Set<String> recursions = new TreeSet<>();
            List<String> deepest = List.of();
            for (String one : calls.keySet()) {
                Set<String> ring = new TreeSet<>();
                for (String other : calls.keySet()) {
                    if (together(one, other)) {
                        ring.add(other);
                    }
                }
                if (!ring.isEmpty()) {
                    recursions.add(ring.toString());
                }
                List<String> chain = chain(one);
                deepest = chain.size() > deepest.size() ? chain : deepest;
            }
            must(recursions.equals(RECURSIONS), "rule 8: what calls itself is " + recursions);
            must(deepest.size() <= MOST_DEEP, "rule 11: " + deepest.size() + " deep: " + String.join(" -> ", deepest));
        }

        /** The longest chain of calls from a method on; a recursion counts as the methods that are in it. */
        private List<String> chain(String from) {
            List<String> best = List.of();
            for (String next : calls.getOrDefault(from, Set.of())) {
                if (together(from, next)) {
                    continue;
                }
                List<String> chain = chain(next);
                best = chain.size() > best.size() ? chain : best;
            }
            List<String> whole = new ArrayList<>();
            whole.add(from);
            for (String other : reached.getOrDefault(from, Set.of())) {
                if (!other.equals(from) && together(from, other)) {
                    whole.add(other);
                    for (String next : calls.getOrDefault(other, Set.of())) {
                        List<String> chain = together(from, next) ? List.of() : chain(next);
                        best = chain.size() > best.size() ? chain : best;
                    }
                }
            }
            whole.addAll(best);
            return whole;
        }
    }

    // ---- rules 3 and 12

    private static void signs(String text) {
        for (int i = 0; i < text.length(); i++) {
            must(text.charAt(i) >= 1 && text.charAt(i) <= 127, "rule 4: a sign beyond 127 at " + i);
        }
    }

    /** What one object has made: all of it, as calls make nothing. */
    private static void room() throws IllegalAccessException {
        Set<Object> seen = Collections.newSetFromMap(new IdentityHashMap<>());
        List<Object> next = new ArrayList<>();
        next.add(new TwoStraws());
        int elements = 0;
        while (!next.isEmpty()) {
            Object one = next.remove(next.size() - 1);
            if (one == null || !seen.add(one)) {
                continue;
            }
            if (one.getClass().isArray()) {
                elements += Array.getLength(one);
                for (int i = 0; i < Array.getLength(one) && !one.getClass().getComponentType().isPrimitive(); i++) {
                    next.add(Array.get(one, i));
                }
                continue;
            }
            for (Field field : one.getClass().getDeclaredFields()) {
                if (!Modifier.isStatic(field.getModifiers()) && one.getClass().getName().startsWith("TwoStraws")) {
                    elements++;
                    field.setAccessible(true);
                    if (!field.getType().isPrimitive()) {
                        next.add(field.get(one));
                    }
                }
            }
        }
        must(seen.size() <= MOST_OBJECTS && elements <= MOST_ELEMENTS, "rule 12: an object makes " + seen.size() + " objects with " + elements + " elements");
        System.out.println("an object makes " + seen.size() + " objects and rows, " + elements + " fields and elements");
    }
}

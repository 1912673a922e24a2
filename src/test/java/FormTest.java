import com.sun.source.tree.BinaryTree;
import com.sun.source.tree.ClassTree;
import com.sun.source.tree.CompilationUnitTree;
import com.sun.source.tree.CompoundAssignmentTree;
import com.sun.source.tree.ForLoopTree;
import com.sun.source.tree.MethodInvocationTree;
import com.sun.source.tree.MethodTree;
import com.sun.source.tree.NewArrayTree;
import com.sun.source.tree.NewClassTree;
import com.sun.source.tree.Tree;
import com.sun.source.tree.TypeCastTree;
import com.sun.source.tree.VariableTree;
import com.sun.source.tree.WhileLoopTree;
import com.sun.source.util.JavacTask;
import com.sun.source.util.TreePath;
import com.sun.source.util.TreePathScanner;
import com.sun.source.util.Trees;
import java.nio.file.Path;
import java.util.EnumSet;
import java.util.HashSet;
import java.util.LinkedHashMap;
import java.util.List;
import java.util.Map;
import java.util.Set;
import java.util.regex.Pattern;
import javax.lang.model.element.Element;
import javax.lang.model.element.ElementKind;
import javax.lang.model.element.ExecutableElement;
import javax.lang.model.element.Modifier;
import javax.lang.model.element.TypeElement;
import javax.lang.model.element.VariableElement;
import javax.lang.model.type.ArrayType;
import javax.lang.model.type.TypeKind;
import javax.lang.model.type.TypeMirror;
import javax.lang.model.util.Elements;
import javax.tools.JavaCompiler;
import javax.tools.ToolProvider;

/**
 * The form of ../shared/LANGUAGE.md as the compiler sees it. Narrower than the rules where the class can do with less:
 * no recursion, no list, no object made by a call, no divisor that is not a constant.
 */
public final class FormTest extends TreePathScanner<Void, Void> {
    private static final Path SOURCE = Path.of("src/main/java/FanTalk.java");
    private static final Set<String> LIBRARY = Set.of("String.length", "String.charAt", "Math.min", "Math.max",
            "Math.abs", "System.arraycopy", "Object.<init>");
    private static final Set<Tree.Kind> NO_PLACE = EnumSet.of(Tree.Kind.LAMBDA_EXPRESSION, Tree.Kind.MEMBER_REFERENCE,
            Tree.Kind.THROW, Tree.Kind.TRY, Tree.Kind.CATCH, Tree.Kind.SYNCHRONIZED, Tree.Kind.ASSERT,
            Tree.Kind.ANNOTATION, Tree.Kind.INSTANCE_OF, Tree.Kind.IMPORT, Tree.Kind.PACKAGE, Tree.Kind.DO_WHILE_LOOP);
    private static final int CALLS_DEEP = 8, LINES = 60, PARAMETERS = 7, CLASSES = 13, FIELDS = 20;

    /** A call of a method, and whether it is of that one alone, not of one that overrides it. */
    private record Call(ExecutableElement to, boolean alone) { }

    private final Trees trees;
    private final Elements elements;
    private final CompilationUnitTree unit;
    private final Map<ExecutableElement, Set<Call>> calls = new LinkedHashMap<>();
    private int classes = 0;
    private int wrong = 0;

    private FormTest(JavacTask task, CompilationUnitTree unit) {
        this.trees = Trees.instance(task);
        this.elements = task.getElements();
        this.unit = unit;
    }

    public static void main(String[] args) throws Exception {
        JavaCompiler compiler = ToolProvider.getSystemJavaCompiler();
        try (var files = compiler.getStandardFileManager(null, null, null)) {
            JavacTask task = (JavacTask) compiler.getTask(null, files, null, List.of("-proc:none"), null,
                    files.getJavaFileObjects(SOURCE));
            CompilationUnitTree unit = task.parse().iterator().next();
            task.analyze();
            FormTest form = new FormTest(task, unit);
            form.scan(unit, null);
            form.lookAtCalls();
            form.hold(form.classes <= CLASSES, "11", "there are " + form.classes + " classes", unit);
            System.out.println("form: " + form.calls.size() + " methods looked at, " + form.wrong + " wrong");
            if (form.wrong != 0 || form.calls.size() < 28) {
                System.exit(1);
            }
        }
    }

    private void hold(boolean holds, String rule, String told, Tree at) {
        if (!holds) {
            wrong++;
            long place = trees.getSourcePositions().getStartPosition(unit, at);
            System.out.println("rule " + rule + ", line " + unit.getLineMap().getLineNumber(place) + ": " + told);
        }
    }

    @Override
    public Void scan(Tree tree, Void none) {
        if (tree != null) {
            hold(!NO_PLACE.contains(tree.getKind()), "1, 2, 6, 7", "there is a " + tree.getKind(), tree);
        }
        return super.scan(tree, none);
    }

    private Element element(Tree tree) {
        return trees.getElement(new TreePath(getCurrentPath(), tree));
    }

    private Element here() {
        return trees.getElement(getCurrentPath());
    }

    @Override
    public Void visitClass(ClassTree tree, Void none) {
        classes++;
        Element c = here();
        boolean top = c.getEnclosingElement().getKind() == ElementKind.PACKAGE;
        hold(top || c.getEnclosingElement().getKind().isClass(), "2", "a class inside a method", tree);
        hold(top == c.getModifiers().contains(Modifier.PUBLIC), "1", "who may see " + c, tree);
        hold(top || c.getModifiers().contains(Modifier.STATIC), "2", c + " is not static", tree);
        long fields = c.getEnclosedElements().stream()
                .filter(e -> e.getKind().isField() && !e.getModifiers().contains(Modifier.STATIC)).count();
        hold(fields <= FIELDS, "11", c + " has " + fields + " fields", tree);
        hold(tree.getMembers().stream().noneMatch(m -> m.getKind() == Tree.Kind.BLOCK), "5", "a block in " + c, tree);
        return super.visitClass(tree, none);
    }

    @Override
    public Void visitMethod(MethodTree tree, Void none) {
        ExecutableElement m = (ExecutableElement) here();
        calls.putIfAbsent(m, new HashSet<>());
        hold(tree.getParameters().size() <= PARAMETERS, "11", m + " takes too many", tree);
        if (tree.getBody() != null) {
            long from = trees.getSourcePositions().getStartPosition(unit, tree);
            long to = trees.getSourcePositions().getEndPosition(unit, tree);
            boolean isShort = to >= from
                    && unit.getLineMap().getLineNumber(to) - unit.getLineMap().getLineNumber(from) < LINES;
            hold(isShort || m.getKind() == ElementKind.CONSTRUCTOR, "11", m + " is too long", tree);
        }
        hold(isTold(m.getReturnType()), "3", m + " answers a " + m.getReturnType(), tree);
        return super.visitMethod(tree, none);
    }

    @Override
    public Void visitVariable(VariableTree tree, Void none) {
        VariableElement v = (VariableElement) here();
        hold(isTold(v.asType()), "3", v + " is a " + v.asType(), tree);
        if (v.getKind() == ElementKind.FIELD && v.getModifiers().contains(Modifier.STATIC)) {
            hold(v.getConstantValue() != null, "5", v + " is static, and no constant", tree);
        }
        return super.visitVariable(tree, none);
    }

    /** Whole numbers, boolean, String, own classes, rows of these (a row of rows is not needed). */
    private static boolean isTold(TypeMirror type) {
        if (type.getKind() == TypeKind.ARRAY) {
            TypeMirror of = ((ArrayType) type).getComponentType();
            return of.getKind() != TypeKind.ARRAY && isTold(of);
        }
        boolean number = type.getKind().isPrimitive() && type.getKind() != TypeKind.DOUBLE
                && type.getKind() != TypeKind.FLOAT;
        String name = type.toString();
        return number || type.getKind() == TypeKind.VOID || name.equals("java.lang.String")
                || name.startsWith("FanTalk");
    }

    private ExecutableElement method() {
        for (TreePath p = getCurrentPath(); p != null; p = p.getParentPath()) {
            if (p.getLeaf().getKind() == Tree.Kind.METHOD) {
                return (ExecutableElement) trees.getElement(p);
            }
        }
        return null;
    }

    @Override
    public Void visitMethodInvocation(MethodInvocationTree tree, Void none) {
        ExecutableElement to = (ExecutableElement) here();
        TypeElement of = (TypeElement) to.getEnclosingElement();
        boolean own = of.toString().startsWith("FanTalk");
        String name = of.getSimpleName() + "." + to.getSimpleName();
        hold(own || LIBRARY.contains(name), "4", "there is a call of " + name, tree);
        ExecutableElement from = method();
        if (own && from != null) {
            boolean alone = tree.getMethodSelect().toString().startsWith("super.");
            calls.computeIfAbsent(from, f -> new HashSet<>()).add(new Call(to, alone));
        }
        return super.visitMethodInvocation(tree, none);
    }

    @Override
    public Void visitNewClass(NewClassTree tree, Void none) {
        hold(tree.getClassBody() == null, "2", "a class without a name", tree);
        hold(method() == null, "12", "a call makes an object", tree);
        return super.visitNewClass(tree, none);
    }

    @Override
    public Void visitNewArray(NewArrayTree tree, Void none) {
        hold(method() == null, "12", "a call makes an array", tree);
        return super.visitNewArray(tree, none);
    }

    @Override
    public Void visitTypeCast(TypeCastTree tree, Void none) {
        hold(trees.getTypeMirror(new TreePath(getCurrentPath(), tree.getType())).getKind().isPrimitive(), "6",
                "a cast of an object", tree);
        return super.visitTypeCast(tree, none);
    }

    @Override
    public Void visitBinary(BinaryTree tree, Void none) {
        if (tree.getKind() == Tree.Kind.DIVIDE || tree.getKind() == Tree.Kind.REMAINDER) {
            holdDivisor(tree.getRightOperand());
        }
        TypeMirror type = trees.getTypeMirror(getCurrentPath());
        hold(!type.toString().equals("java.lang.String"), "10", "texts are joined by +", tree);
        return super.visitBinary(tree, none);
    }

    @Override
    public Void visitCompoundAssignment(CompoundAssignmentTree tree, Void none) {
        if (tree.getKind() == Tree.Kind.DIVIDE_ASSIGNMENT || tree.getKind() == Tree.Kind.REMAINDER_ASSIGNMENT) {
            holdDivisor(tree.getExpression());
        }
        return super.visitCompoundAssignment(tree, none);
    }

    private void holdDivisor(Tree by) {
        boolean literal = by.getKind() == Tree.Kind.INT_LITERAL || by.getKind() == Tree.Kind.LONG_LITERAL;
        boolean constant = element(by) instanceof VariableElement v && v.getConstantValue() instanceof Number n
                && n.longValue() != 0;
        hold(constant || literal && !by.toString().matches("0L?"), "7", "a divisor that may be 0", by);
    }

    @Override
    public Void visitForLoop(ForLoopTree tree, Void none) {
        hold(tree.getCondition() != null && tree.getUpdate().size() == 1 && isCounted(tree), "9",
                "a loop whose end is not seen", tree);
        return super.visitForLoop(tree, none);
    }

    /** A counter goes one way, and is held against a bound on that side. */
    private static boolean isCounted(ForLoopTree tree) {
        String step = tree.getUpdate().get(0).toString().replace(";", "");
        if (!step.matches("\\w+(\\+\\+|--)")) {
            return false;
        }
        String counter = step.substring(0, step.length() - 2);
        String bound = step.endsWith("++") ? " <=? .*" : " >=? .*";
        return tree.getCondition().toString().matches("(.*\\W)?" + counter + bound)
                && !isSet(counter, tree.getStatement().toString());
    }

    /** Whether a body sets a counter: then the loop's head alone does not tell its end. */
    private static boolean isSet(String counter, String body) {
        String behind = "(\\+\\+|--| (\\+|-|\\*|/|%|&|\\||\\^|<<|>>>?)?= )";
        return Pattern.compile("(?<![\\w.])" + counter + behind + "|(\\+\\+|--)" + counter + "\\b")
                .matcher(body).find();
    }

    @Override
    public Void visitWhileLoop(WhileLoopTree tree, Void none) {
        String body = tree.getStatement().toString().replaceAll("\\s+", " ");
        String condition = tree.getCondition().toString();
        boolean counted = condition.matches("\\((\\w+) < length && .*")
                && body.contains(" " + condition.substring(1, condition.indexOf(' ')) + "++;");
        hold(counted, "9", "a loop whose end is not seen", tree);
        return super.visitWhileLoop(tree, none);
    }

    private void lookAtCalls() {
        for (ExecutableElement m : calls.keySet()) {
            int deep = deep(m, new HashSet<>());
            hold(deep <= CALLS_DEEP, "8, 11", m + " goes " + deep + " calls deep", trees.getTree(m));
        }
    }

    /** How deep calls go from a method on, itself included; those that come back to themselves have no end. */
    private int deep(ExecutableElement m, Set<ExecutableElement> open) {
        if (!open.add(m)) {
            return 1000;
        }
        int most = 0;
        for (Call call : calls.getOrDefault(m, Set.of())) {
            for (ExecutableElement there : calls.keySet()) {
                if (there.equals(call.to) || !call.alone
                        && elements.overrides(there, call.to, (TypeElement) there.getEnclosingElement())) {
                    most = Math.max(most, deep(there, open));
                }
            }
        }
        open.remove(m);
        return most + 1;
    }
}

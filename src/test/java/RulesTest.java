import com.sun.source.tree.ArrayTypeTree;
import com.sun.source.tree.AssertTree;
import com.sun.source.tree.ClassTree;
import com.sun.source.tree.CompilationUnitTree;
import com.sun.source.tree.CompoundAssignmentTree;
import com.sun.source.tree.BinaryTree;
import com.sun.source.tree.BlockTree;
import com.sun.source.tree.DoWhileLoopTree;
import com.sun.source.tree.ExpressionTree;
import com.sun.source.tree.ForLoopTree;
import com.sun.source.tree.LambdaExpressionTree;
import com.sun.source.tree.LiteralTree;
import com.sun.source.tree.MemberReferenceTree;
import com.sun.source.tree.MethodInvocationTree;
import com.sun.source.tree.MethodTree;
import com.sun.source.tree.NewClassTree;
import com.sun.source.tree.SynchronizedTree;
import com.sun.source.tree.ThrowTree;
import com.sun.source.tree.Tree;
import com.sun.source.tree.TryTree;
import com.sun.source.tree.TypeCastTree;
import com.sun.source.tree.VariableTree;
import com.sun.source.tree.WhileLoopTree;
import com.sun.source.util.JavacTask;
import com.sun.source.util.TreePathScanner;
import com.sun.source.util.Trees;
import java.io.IOException;
import java.nio.file.Path;
import java.util.List;
import java.util.Map;
import java.util.Set;
import java.util.TreeMap;
import java.util.TreeSet;
import javax.lang.model.element.Element;
import javax.lang.model.element.ElementKind;
import javax.lang.model.element.Modifier;
import javax.lang.model.type.TypeKind;
import javax.tools.JavaCompiler;
import javax.tools.StandardJavaFileManager;
import javax.tools.ToolProvider;

/**
 * The rules of LANGUAGE.md that can be seen in the source, on the compiler's own tree of it. What is
 * asked here is narrower than the rules where the class needs less than they leave.
 */
public final class RulesTest extends TreePathScanner<Void, Void> {
    private static final int MOST_LINES = 60, MOST_PARAMETERS = 7, MOST_DEEP = 8, MOST_CLASSES = 12, MOST_FIELDS = 20;
    private static final Set<String> NUMBERS = Set.of("int", "long", "short", "byte", "char", "boolean");
    private static final Set<String> LIBRARY = Set.of("java.util.Arrays.fill", "java.util.Arrays.copyOf",
        "java.lang.System.arraycopy", "java.lang.Long.bitCount", "java.lang.Long.numberOfTrailingZeros");
    private static final Due due = new Due("RulesTest");

    private final Trees trees;
    private final CompilationUnitTree unit;
    private final Set<String> classes = new TreeSet<>();
    /** Which methods of the class each of its methods calls. */
    private final Map<String, Set<String>> calls = new TreeMap<>();
    private String method = "";
    private boolean inConstructor;
    private int loops;

    private RulesTest(Trees trees, CompilationUnitTree unit) {
        this.trees = trees;
        this.unit = unit;
    }

    public static void main(String[] args) throws IOException {
        JavaCompiler compiler = ToolProvider.getSystemJavaCompiler();
        Path source = Path.of(args[0], "src", "main", "java", "RoaringIndex.java");
        try (StandardJavaFileManager files = compiler.getStandardFileManager(null, null, null)) {
            JavacTask task = (JavacTask) compiler.getTask(null, files, null, List.of("--release", "17", "-proc:none"),
                null, files.getJavaFileObjects(source));
            CompilationUnitTree unit = task.parse().iterator().next();
            task.analyze();
            RulesTest rules = new RulesTest(Trees.instance(task), unit);
            rules.wholeFile();
            rules.scan(unit, null);
            rules.calling();
        }
        due.end();
    }

    private void wholeFile() {
        due.holds("no package line", unit.getPackageName() == null);
        due.is("classes beside one another in the file", unit.getTypeDecls().size(), 1);
        unit.getImports().forEach(i ->
            due.holds("rule 4: " + i, i.getQualifiedIdentifier().toString().equals("java.util.Arrays")));
        ClassTree outer = (ClassTree) unit.getTypeDecls().get(0);
        classes.add(outer.getSimpleName().toString());
        for (Tree member : outer.getMembers()) {
            if (member instanceof ClassTree inside) {
                classes.add(inside.getSimpleName().toString());
            }
        }
        due.holds("rule 11: " + classes.size() + " classes", classes.size() <= MOST_CLASSES);
    }

    private boolean isOwn(Element e) {
        Element at = e;
        while (at != null && at.getKind() != ElementKind.PACKAGE) {
            if (at.toString().equals("RoaringIndex")) {
                return true;
            }
            at = at.getEnclosingElement();
        }
        return false;
    }

    private long line(Tree tree) {
        return unit.getLineMap().getLineNumber(trees.getSourcePositions().getStartPosition(unit, tree));
    }

    private long lines(Tree tree) {
        long end = trees.getSourcePositions().getEndPosition(unit, tree);
        return unit.getLineMap().getLineNumber(end) - line(tree) + 1;
    }

    private void never(String rule, Tree tree) {
        due.holds(rule + ": line " + line(tree) + " has " + tree, false);
    }

    @Override public Void visitClass(ClassTree tree, Void none) {
        Tree parent = getCurrentPath().getParentPath().getLeaf();
        String name = tree.getSimpleName().toString();
        if (parent instanceof ClassTree) {
            Set<Modifier> marks = tree.getModifiers().getFlags();
            due.holds("rule 2: " + name + " is static", marks.contains(Modifier.STATIC));
            due.holds("rule 1: " + name + " is not public or protected",
                !marks.contains(Modifier.PUBLIC) && !marks.contains(Modifier.PROTECTED));
        } else {
            due.holds("rule 2: " + name + " is no local or anonymous class", parent == unit);
        }
        int fields = 0;
        for (Tree member : tree.getMembers()) {
            due.holds("rule 5: no block of its own in " + name, !(member instanceof BlockTree));
            if (member instanceof VariableTree field && !field.getModifiers().getFlags().contains(Modifier.STATIC)) {
                fields++;
            }
        }
        due.holds("rule 11: " + name + " has " + fields + " fields", fields <= MOST_FIELDS);
        return super.visitClass(tree, none);
    }

    @Override public Void visitMethod(MethodTree tree, Void none) {
        Element element = trees.getElement(getCurrentPath());
        method = element.getEnclosingElement().getSimpleName() + "." + element;
        inConstructor = element.getKind() == ElementKind.CONSTRUCTOR;
        calls.putIfAbsent(method, new TreeSet<>());
        due.holds("rule 11: " + method + " has " + lines(tree) + " lines", lines(tree) <= MOST_LINES);
        due.holds("rule 11: parameters of " + method, tree.getParameters().size() <= MOST_PARAMETERS);
        due.holds("rule 6: " + method + " says no throws", tree.getThrows().isEmpty());
        super.visitMethod(tree, none);
        method = "";
        inConstructor = false;
        return null;
    }

    @Override public Void visitVariable(VariableTree tree, Void none) {
        allowedType(tree.getType());
        Element element = trees.getElement(getCurrentPath());
        if (element.getKind() == ElementKind.FIELD && element.getModifiers().contains(Modifier.STATIC)) {
            staticField(tree, element);
        }
        return super.visitVariable(tree, none);
    }

    private void staticField(VariableTree tree, Element element) {
        String where = "rule 5: " + tree.getName();
        due.holds(where + " is final", element.getModifiers().contains(Modifier.FINAL));
        boolean number = NUMBERS.contains(tree.getType().toString());
        boolean writtenOut = tree.getInitializer() != null && tree.getInitializer().getKind() == Tree.Kind.NEW_ARRAY;
        due.holds(where + " is a number or an array written out", number || writtenOut);
    }

    private void allowedType(Tree type) {
        if (type instanceof ArrayTypeTree array) {
            due.holds("rule 3: " + type + " has one dimension", !(array.getType() instanceof ArrayTypeTree));
            allowedType(array.getType());
            return;
        }
        due.holds("rule 3: the type " + type, NUMBERS.contains(type.toString()) || classes.contains(type.toString()));
    }

    @Override public Void visitMethodInvocation(MethodInvocationTree tree, Void none) {
        Element called = trees.getElement(getCurrentPath());
        Element owner = called.getEnclosingElement();
        if (isOwn(called)) {
            calls.computeIfAbsent(method, m -> new TreeSet<>()).add(owner.getSimpleName() + "." + called);
        } else if (!called.getSimpleName().contentEquals("<init>")) {
            String name = owner + "." + called.getSimpleName();
            due.holds("rule 4: line " + line(tree) + " calls " + name, LIBRARY.contains(name));
        }
        return super.visitMethodInvocation(tree, none);
    }

    @Override public Void visitNewClass(NewClassTree tree, Void none) {
        due.holds("rule 4: line " + line(tree) + " makes " + tree, classes.contains(tree.getIdentifier().toString()));
        due.holds("rule 12: line " + line(tree) + " makes " + tree + " in a loop", loops == 0 || inConstructor);
        calls.computeIfAbsent(method, m -> new TreeSet<>())
            .add(tree.getIdentifier() + "." + trees.getElement(getCurrentPath()));
        return super.visitNewClass(tree, none);
    }

    @Override public Void visitTypeCast(TypeCastTree tree, Void none) {
        due.holds("rule 6: line " + line(tree) + " casts to a number", NUMBERS.contains(tree.getType().toString()));
        return super.visitTypeCast(tree, none);
    }

    @Override public Void visitBinary(BinaryTree tree, Void none) {
        if (tree.getKind() == Tree.Kind.DIVIDE || tree.getKind() == Tree.Kind.REMAINDER) {
            divisor(tree, tree.getRightOperand());
        }
        return super.visitBinary(tree, none);
    }

    @Override public Void visitCompoundAssignment(CompoundAssignmentTree tree, Void none) {
        Tree.Kind kind = tree.getKind();
        if (kind == Tree.Kind.DIVIDE_ASSIGNMENT || kind == Tree.Kind.REMAINDER_ASSIGNMENT) {
            divisor(tree, tree.getExpression());
        }
        return super.visitCompoundAssignment(tree, none);
    }

    private void divisor(Tree tree, ExpressionTree by) {
        boolean told = by instanceof LiteralTree number && !number.toString().matches("0+L?");
        due.holds("rule 7: line " + line(tree) + " divides by a number that is told: " + tree, told);
    }

    @Override public Void visitForLoop(ForLoopTree tree, Void none) {
        due.holds("rule 9: line " + line(tree) + " has an end", tree.getCondition() != null && !tree.getUpdate().isEmpty());
        loops++;
        super.visitForLoop(tree, none);
        loops--;
        return null;
    }

    @Override public Void visitWhileLoop(WhileLoopTree tree, Void none) {
        String end = tree.getCondition().toString();
        due.holds("rule 9: line " + line(tree) + " counts against a bound: " + end, end.contains("<"));
        loops++;
        super.visitWhileLoop(tree, none);
        loops--;
        return null;
    }

    @Override public Void visitDoWhileLoop(DoWhileLoopTree tree, Void none) {
        never("rule 9, there is no need of do", tree);
        return super.visitDoWhileLoop(tree, none);
    }

    @Override public Void visitLambdaExpression(LambdaExpressionTree tree, Void none) {
        never("rule 2", tree);
        return super.visitLambdaExpression(tree, none);
    }

    @Override public Void visitMemberReference(MemberReferenceTree tree, Void none) {
        never("rule 2", tree);
        return super.visitMemberReference(tree, none);
    }

    @Override public Void visitThrow(ThrowTree tree, Void none) {
        never("rule 6", tree);
        return super.visitThrow(tree, none);
    }

    @Override public Void visitTry(TryTree tree, Void none) {
        never("rule 6", tree);
        return super.visitTry(tree, none);
    }

    @Override public Void visitSynchronized(SynchronizedTree tree, Void none) {
        never("rule 6", tree);
        return super.visitSynchronized(tree, none);
    }

    @Override public Void visitAssert(AssertTree tree, Void none) {
        never("rule 6", tree);
        return super.visitAssert(tree, none);
    }

    @Override public Void visitLiteral(LiteralTree tree, Void none) {
        TypeKind kind = trees.getTypeMirror(getCurrentPath()).getKind();
        boolean plain = kind == TypeKind.INT || kind == TypeKind.LONG || kind == TypeKind.BOOLEAN || kind == TypeKind.NULL;
        due.holds("rule 3: line " + line(tree) + " has " + tree, plain);
        return super.visitLiteral(tree, none);
    }

    private void calling() {
        due.holds("calls were found", calls.size() > 26 && !calls.get("RoaringIndex.read(int)").isEmpty());
        for (String start : calls.keySet()) {
            int deep = depthOf(start, new TreeSet<>());
            due.holds("rules 8 and 11: calls from " + start + " on go " + deep + " deep", deep <= MOST_DEEP);
        }
    }

    /** How many methods stand open at once at most; far too many if one would call itself again. */
    private int depthOf(String start, Set<String> open) {
        if (!open.add(start)) {
            return 1000;
        }
        int deepest = 0;
        for (String called : calls.getOrDefault(start, Set.of())) {
            deepest = Math.max(deepest, depthOf(called, open));
        }
        open.remove(start);
        return deepest + 1;
    }
}

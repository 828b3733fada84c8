import com.sun.source.tree.AssertTree;
import com.sun.source.tree.AssignmentTree;
import com.sun.source.tree.BinaryTree;
import com.sun.source.tree.ClassTree;
import com.sun.source.tree.CompilationUnitTree;
import com.sun.source.tree.CompoundAssignmentTree;
import com.sun.source.tree.DoWhileLoopTree;
import com.sun.source.tree.ExpressionTree;
import com.sun.source.tree.ForLoopTree;
import com.sun.source.tree.LambdaExpressionTree;
import com.sun.source.tree.MemberReferenceTree;
import com.sun.source.tree.MethodInvocationTree;
import com.sun.source.tree.MethodTree;
import com.sun.source.tree.NewClassTree;
import com.sun.source.tree.SynchronizedTree;
import com.sun.source.tree.ThrowTree;
import com.sun.source.tree.Tree;
import com.sun.source.tree.TryTree;
import com.sun.source.tree.TypeCastTree;
import com.sun.source.tree.UnaryTree;
import com.sun.source.tree.VariableTree;
import com.sun.source.tree.WhileLoopTree;
import com.sun.source.util.JavacTask;
import com.sun.source.util.TreePath;
import com.sun.source.util.TreePathScanner;
import com.sun.source.util.TreeScanner;
import com.sun.source.util.Trees;
import java.io.IOException;
import java.util.ArrayDeque;
import java.util.Deque;
import java.util.List;
import java.util.Map;
import java.util.Set;
import java.util.TreeMap;
import java.util.TreeSet;
import javax.lang.model.element.Element;
import javax.lang.model.element.ElementKind;
import javax.lang.model.element.Modifier;
import javax.lang.model.element.VariableElement;
import javax.lang.model.type.ArrayType;
import javax.lang.model.type.TypeMirror;
import javax.tools.JavaCompiler;
import javax.tools.StandardJavaFileManager;
import javax.tools.ToolProvider;

/** Those rules of LANGUAGE.md that are looked at in the compiler's own tree of the source: calls, loops, divisors. */
public final class LanguageTreeTest extends TreePathScanner<Void, Void> {
    private static final int DEEPEST = 8, MOST_LINES = 60, MOST_PARAMETERS = 7;
    /** What the class takes of the library that rule 4 leaves. */
    private static final Set<String> LIBRARY = Set.of("java.lang.Math.max", "java.lang.Integer.bitCount",
        "java.lang.Integer.numberOfTrailingZeros", "java.lang.System.arraycopy");

    private final Trees trees;
    private final CompilationUnitTree unit;
    private final Map<String, Set<String>> calls = new TreeMap<>();
    private final Deque<String> classes = new ArrayDeque<>();
    private String caller = "";
    private int loops = 0, divisions = 0, deepest = 0;
    private long longest = 0;

    private LanguageTreeTest(Trees trees, CompilationUnitTree unit) {
        this.trees = trees;
        this.unit = unit;
    }

    public static void main(String[] args) throws IOException {
        JavaCompiler compiler = ToolProvider.getSystemJavaCompiler();
        StandardJavaFileManager files = compiler.getStandardFileManager(null, null, null);
        JavacTask task = (JavacTask) compiler.getTask(null, files, null, List.of("-proc:none"), null,
            files.getJavaFileObjects(args[0]));
        CompilationUnitTree unit = task.parse().iterator().next();
        task.analyze();
        LanguageTreeTest test = new LanguageTreeTest(Trees.instance(task), unit);
        test.scan(unit, null);
        test.depths();
        Check.isTrue("loops and divisions were found", test.loops > 0 && test.divisions > 0);
        Check.isTrue("lines and calls were counted", test.longest > 1 && test.deepest > 1);
        Check.end();
    }

    private void forbid(String what, Tree tree) {
        long line = unit.getLineMap().getLineNumber(trees.getSourcePositions().getStartPosition(unit, tree));
        Check.isTrue("line " + line + " is free of this: " + what, false);
    }

    // ---- rule 2: classes

    @Override
    public Void visitClass(ClassTree tree, Void unused) {
        if (!classes.isEmpty()) {
            Set<Modifier> flags = tree.getModifiers().getFlags();
            if (!flags.contains(Modifier.STATIC)) forbid("a class inside that is not static", tree);
            if (classes.size() > 1) forbid("a class inside a class inside, or in a method", tree);
        }
        String outside = caller;
        classes.push(tree.getSimpleName().toString());
        caller = classes.peek() + ".<init>";
        super.visitClass(tree, null);
        classes.pop();
        caller = outside;
        return null;
    }

    @Override
    public Void visitLambdaExpression(LambdaExpressionTree tree, Void unused) {
        forbid("a lambda", tree);
        return null;
    }

    @Override
    public Void visitMemberReference(MemberReferenceTree tree, Void unused) {
        forbid("a method reference", tree);
        return null;
    }

    // ---- rules 3 and 5: types, static fields

    @Override
    public Void visitVariable(VariableTree tree, Void unused) {
        Element variable = trees.getElement(getCurrentPath());
        if (!isOurs(variable.asType())) forbid("the type " + variable.asType(), tree);
        if (variable.getModifiers().contains(Modifier.STATIC)) {
            if (((VariableElement) variable).getConstantValue() == null) forbid("a static field, no constant", tree);
        }
        return super.visitVariable(tree, null);
    }

    private static boolean isOurs(TypeMirror type) {
        if (type.getKind().isPrimitive()) return true;
        if (type instanceof ArrayType row) return row.getComponentType().getKind().isPrimitive();
        return type.toString().startsWith("ForfeitBook.");
    }

    // ---- rules 4, 8 and 11: calls

    @Override
    public Void visitMethod(MethodTree tree, Void unused) {
        String outside = caller;
        caller = classes.peek() + "." + tree.getName();
        calls.computeIfAbsent(caller, name -> new TreeSet<>());
        if (tree.getParameters().size() > MOST_PARAMETERS) forbid("more than seven parameters", tree);
        if (linesOf(tree) > MOST_LINES) forbid("a method of more than sixty lines", tree);
        super.visitMethod(tree, null);
        caller = outside;
        return null;
    }

    /** None of a constructor that the compiler has put in: that has no end in the source. */
    private long linesOf(MethodTree tree) {
        long start = trees.getSourcePositions().getStartPosition(unit, tree);
        long end = trees.getSourcePositions().getEndPosition(unit, tree);
        if (end < 0) return 0;
        long lines = unit.getLineMap().getLineNumber(end) - unit.getLineMap().getLineNumber(start) + 1;
        longest = Math.max(longest, lines);
        return lines;
    }

    @Override
    public Void visitMethodInvocation(MethodInvocationTree tree, Void unused) {
        called(trees.getElement(getCurrentPath()), tree);
        return super.visitMethodInvocation(tree, null);
    }

    @Override
    public Void visitNewClass(NewClassTree tree, Void unused) {
        if (tree.getClassBody() != null) forbid("a class without a name", tree);
        called(trees.getElement(getCurrentPath()), tree);
        return super.visitNewClass(tree, null);
    }

    private void called(Element method, Tree tree) {
        Element of = method.getEnclosingElement();
        String name = of + "." + method.getSimpleName();
        if (name.equals("java.lang.Object.<init>")) return;
        if (of.toString().startsWith("ForfeitBook")) {
            calls.computeIfAbsent(caller, c -> new TreeSet<>()).add(of.getSimpleName() + "." + method.getSimpleName());
        } else if (!LIBRARY.contains(name)) {
            forbid("a call of " + name, tree);
        }
    }

    /** The calls that stand open at once, the public one among them; no call comes back to one that is open. */
    private void depths() {
        for (String name : calls.keySet()) {
            deepest = Math.max(deepest, depthOf(name, new ArrayDeque<>()));
        }
        Check.isTrue("calls go " + deepest + " deep, eight at most", deepest <= DEEPEST);
    }

    private int depthOf(String name, Deque<String> open) {
        if (open.contains(name)) {
            Check.isTrue("no recursion: " + open + " calls " + name, false);
            return 0;
        }
        open.push(name);
        int below = 0;
        for (String next : calls.getOrDefault(name, Set.of())) {
            below = Math.max(below, depthOf(next, open));
        }
        open.pop();
        return 1 + below;
    }

    // ---- rules 6 and 7: what may throw

    @Override
    public Void visitThrow(ThrowTree tree, Void unused) {
        forbid("throw", tree);
        return null;
    }

    @Override
    public Void visitTry(TryTree tree, Void unused) {
        forbid("try", tree);
        return null;
    }

    @Override
    public Void visitSynchronized(SynchronizedTree tree, Void unused) {
        forbid("synchronized", tree);
        return null;
    }

    @Override
    public Void visitAssert(AssertTree tree, Void unused) {
        forbid("assert", tree);
        return null;
    }

    @Override
    public Void visitTypeCast(TypeCastTree tree, Void unused) {
        forbid("a cast", tree);
        return null;
    }

    @Override
    public Void visitBinary(BinaryTree tree, Void unused) {
        if (tree.getKind() == Tree.Kind.DIVIDE || tree.getKind() == Tree.Kind.REMAINDER) {
            divisions++;
            if (!isNeverNought(tree.getRightOperand())) forbid("a divisor that may be 0: " + tree, tree);
        }
        return super.visitBinary(tree, null);
    }

    @Override
    public Void visitCompoundAssignment(CompoundAssignmentTree tree, Void unused) {
        Tree.Kind kind = tree.getKind();
        if (kind == Tree.Kind.DIVIDE_ASSIGNMENT || kind == Tree.Kind.REMAINDER_ASSIGNMENT) forbid("/= or %=", tree);
        return super.visitCompoundAssignment(tree, null);
    }

    /** A constant, a number that the same method has tested against 0 ahead of it, or a loop's counter from 0 and 1. */
    private boolean isNeverNought(ExpressionTree divisor) {
        Element element = trees.getElement(new TreePath(getCurrentPath(), divisor));
        if (element instanceof VariableElement variable && variable.getConstantValue() instanceof Integer n) {
            return n != 0;
        }
        String before = sourceBefore(divisor);
        if (element != null) return before.contains("if (" + divisor + " == 0) return");
        String text = divisor.toString().replaceAll("[() ]", "");
        return text.endsWith("+1") && before.contains("for (int " + text.replace("+1", "") + " = 0;");
    }

    private String sourceBefore(Tree tree) {
        TreePath path = getCurrentPath();
        while (path.getLeaf().getKind() != Tree.Kind.METHOD) {
            path = path.getParentPath();
        }
        try {
            String source = unit.getSourceFile().getCharContent(true).toString();
            int start = (int) trees.getSourcePositions().getStartPosition(unit, path.getLeaf());
            return source.substring(start, (int) trees.getSourcePositions().getStartPosition(unit, tree));
        } catch (IOException e) {
            return "";
        }
    }

    // ---- rule 9: loops

    @Override
    public Void visitWhileLoop(WhileLoopTree tree, Void unused) {
        forbid("a loop without a counter", tree);
        return null;
    }

    @Override
    public Void visitDoWhileLoop(DoWhileLoopTree tree, Void unused) {
        forbid("a loop without a counter", tree);
        return null;
    }

    @Override
    public Void visitForLoop(ForLoopTree tree, Void unused) {
        loops++;
        if (tree.getInitializer().size() != 1 || tree.getUpdate().size() != 1
            || !(tree.getInitializer().get(0) instanceof VariableTree counter)) {
            forbid("a loop without one counter of its own", tree);
            return super.visitForLoop(tree, null);
        }
        String name = counter.getName().toString();
        String update = tree.getUpdate().get(0).toString().replace(";", "");
        if (!update.matches(name + "\\+\\+|" + name + " \\+= [A-Z_]+")) forbid("an odd step: " + update, tree);
        String firstCondition = tree.getCondition().toString().split("&&")[0].trim();
        if (!firstCondition.matches(name + " <=? .*")) forbid("an odd bound: " + firstCondition, tree);
        if (changes(tree.getStatement(), name)) forbid("a counter that its own loop changes: " + name, tree);
        for (String word : firstCondition.split("[^A-Za-z.]+")) {
            if (!word.isEmpty() && changes(tree.getStatement(), word)) forbid("a bound that changes: " + word, tree);
        }
        return super.visitForLoop(tree, null);
    }

    private static boolean changes(Tree body, String name) {
        boolean[] found = {false};
        new TreeScanner<Void, Void>() {
            @Override
            public Void visitAssignment(AssignmentTree tree, Void unused) {
                found[0] |= tree.getVariable().toString().equals(name);
                return super.visitAssignment(tree, null);
            }

            @Override
            public Void visitCompoundAssignment(CompoundAssignmentTree tree, Void unused) {
                found[0] |= tree.getVariable().toString().equals(name);
                return super.visitCompoundAssignment(tree, null);
            }

            @Override
            public Void visitUnary(UnaryTree tree, Void unused) {
                boolean steps = tree.getKind().name().contains("CREMENT");
                found[0] |= steps && tree.getExpression().toString().equals(name);
                return super.visitUnary(tree, null);
            }
        }.scan(body, null);
        return found[0];
    }
}

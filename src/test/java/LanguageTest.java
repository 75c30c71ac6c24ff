import com.sun.source.tree.AssertTree;
import com.sun.source.tree.BinaryTree;
import com.sun.source.tree.BlockTree;
import com.sun.source.tree.CatchTree;
import com.sun.source.tree.ClassTree;
import com.sun.source.tree.CompilationUnitTree;
import com.sun.source.tree.CompoundAssignmentTree;
import com.sun.source.tree.DoWhileLoopTree;
import com.sun.source.tree.ExpressionTree;
import com.sun.source.tree.ForLoopTree;
import com.sun.source.tree.ImportTree;
import com.sun.source.tree.InstanceOfTree;
import com.sun.source.tree.LambdaExpressionTree;
import com.sun.source.tree.LiteralTree;
import com.sun.source.tree.MemberReferenceTree;
import com.sun.source.tree.MethodInvocationTree;
import com.sun.source.tree.MethodTree;
import com.sun.source.tree.NewArrayTree;
import com.sun.source.tree.NewClassTree;
import com.sun.source.tree.SynchronizedTree;
import com.sun.source.tree.ThrowTree;
import com.sun.source.tree.Tree;
import com.sun.source.tree.TryTree;
import com.sun.source.tree.TypeCastTree;
import com.sun.source.tree.VariableTree;
import com.sun.source.tree.WhileLoopTree;
import com.sun.source.util.JavacTask;
import com.sun.source.util.TreePath;
import com.sun.source.util.TreePathScanner;
import com.sun.source.util.Trees;
import java.io.File;
import java.io.IOException;
import java.util.ArrayList;
import java.util.List;
import java.util.Map;
import java.util.Set;
import java.util.TreeMap;
import java.util.TreeSet;
import javax.lang.model.element.Element;
import javax.lang.model.element.ElementKind;
import javax.lang.model.element.ExecutableElement;
import javax.lang.model.element.Modifier;
import javax.lang.model.element.VariableElement;
import javax.lang.model.type.TypeKind;
import javax.lang.model.type.TypeMirror;
import javax.tools.JavaCompiler;
import javax.tools.StandardJavaFileManager;
import javax.tools.ToolProvider;

/**
 * The rules of ../shared/LANGUAGE.md, by their numbers, that can be seen in the text of the class: it is
 * read by the compiler's own reader. FaceTest has those that reflection can see, RoomTest rule 12's room.
 */
public final class LanguageTest extends TreePathScanner<Void, Void> {
    private static final String SOURCE = "src/main/java/TillPipe.java";
    private static final int MOST_LINES = 60;
    private static final int MOST_PARAMETERS = 7;
    private static final int MOST_FIELDS = 20;
    private static final int MOST_CLASSES = 12;
    private static final int MOST_DEEP = 8;

    private static final Set<String> LIBRARY = Set.of(
        "java.lang.Math.max", "java.lang.Math.min", "java.lang.Integer.bitCount",
        "java.lang.Integer.numberOfLeadingZeros", "java.lang.System.arraycopy", "java.util.Arrays.fill",
        "java.util.Arrays.copyOf");
    /** Divisors that are no constants: the condition that holds them above 0 stands in the same method. */
    private static final Set<String> GUARDED = Set.of("reckon / b", "servedOfDay % customersTold",
        "pipeWith % shop.kinds", "pipeWith / shop.kinds");
    /** Methods that call themselves, or one another, each with a depth that is held low. */
    private static final Set<String> RECURSIVE = Set.of(
        "Rule.readsCondition(tape,depth,begun)", "Rule.readsTruth(tape,depth,begun)",
        "Rule.readsUnit(tape,depth,begun)", "Rule.readsInner(tape,depth,first)", "Rule.readsSum(tape,depth)",
        "Rule.readsTerm(tape,depth)", "Rule.readsAtom(tape,depth)",
        "Payings.puts(customer,set,coin,first,second,into)", "Rows.extend(level,set)");
    /** Methods that make arrays or objects: those that fields' first values come from, and a rule's signs. */
    private static final Set<String> MAKING = Set.of("TillPipe.newCustomers()", "TillPipe.newRules()",
        "Rule.become(told)", "TillPipe.value(kind)");

    private final Trees trees;
    private final CompilationUnitTree unit;
    private final Map<String, Set<String>> calls = new TreeMap<>();
    private final Set<String> face = new TreeSet<>();
    private final Set<String> divisors = new TreeSet<>();
    private int classes;
    private int wrong;

    private LanguageTest(Trees trees, CompilationUnitTree unit) {
        this.trees = trees;
        this.unit = unit;
    }

    public static void main(String[] args) throws IOException {
        JavaCompiler compiler = ToolProvider.getSystemJavaCompiler();
        try (StandardJavaFileManager files = compiler.getStandardFileManager(null, null, null)) {
            JavacTask task = (JavacTask) compiler.getTask(null, files, null, List.of("-proc:none"), null,
                files.getJavaFileObjects(new File(args.length > 0 ? args[0] : SOURCE)));
            CompilationUnitTree unit = task.parse().iterator().next();
            task.analyze();
            LanguageTest test = new LanguageTest(Trees.instance(task), unit);
            test.go();
            System.out.println(test.wrong == 0 ? "the class keeps to the rules" : test.wrong + " wrong");
            if (test.wrong > 0) {
                System.exit(1);
            }
        }
    }

    private void go() {
        due(1, unit.getPackageName() == null, unit, "no package line");
        due(1, unit.getTypeDecls().size() == 1, unit, "one class in the file");
        for (ImportTree one : unit.getImports()) {
            String name = one.getQualifiedIdentifier().toString();
            due(4, !one.isStatic() && (name.equals("java.util.Arrays")
                || name.equals("java.util.NoSuchElementException")), one, "import " + name);
        }
        scan(unit, null);
        due(11, classes <= MOST_CLASSES, unit, classes + " classes");
        due(7, divisors.equals(GUARDED), unit, "divisors that are no constants: " + divisors);
        if (recursion()) {
            depth();
        }
    }

    private void due(int rule, boolean so, Tree where, String what) {
        if (!so) {
            wrong++;
            long at = trees.getSourcePositions().getStartPosition(unit, where);
            System.out.println("rule " + rule + ", line " + unit.getLineMap().getLineNumber(Math.max(0, at)) + ": " + what);
        }
    }

    // ---- where something stands

    private Element element() {
        return trees.getElement(getCurrentPath());
    }

    private static String nameOf(ExecutableElement method) {
        StringBuilder out = new StringBuilder();
        out.append(method.getEnclosingElement().getSimpleName()).append('.').append(method.getSimpleName()).append('(');
        String between = "";
        for (VariableElement one : method.getParameters()) {
            out.append(between).append(one.getSimpleName());
            between = ",";
        }
        return out.append(')').toString();
    }

    /** The method in which the place that is looked at stands; null in a field's first value. */
    private ExecutableElement method() {
        for (TreePath p = getCurrentPath(); p != null; p = p.getParentPath()) {
            if (p.getLeaf() instanceof MethodTree) {
                return (ExecutableElement) trees.getElement(p);
            }
        }
        return null;
    }

    private boolean isOwn(Element one) {
        Element top = one;
        while (top != null && top.getEnclosingElement() != null
            && top.getEnclosingElement().getKind() != ElementKind.PACKAGE) {
            top = top.getEnclosingElement();
        }
        return top != null && top.getSimpleName().contentEquals("TillPipe");
    }

    // ---- rules 1, 2, 5, 11: classes, methods, fields

    @Override
    public Void visitClass(ClassTree tree, Void none) {
        classes++;
        Tree above = getCurrentPath().getParentPath().getLeaf();
        boolean top = above instanceof CompilationUnitTree;
        due(2, top || above instanceof ClassTree, tree, "a local or anonymous class");
        Set<Modifier> how = tree.getModifiers().getFlags();
        due(1, top ? how.equals(Set.of(Modifier.PUBLIC, Modifier.FINAL))
            : how.contains(Modifier.STATIC) && !how.contains(Modifier.PUBLIC) && !how.contains(Modifier.PROTECTED),
            tree, "class " + tree.getSimpleName() + " is " + how);
        int fields = 0;
        for (Tree member : tree.getMembers()) {
            due(5, !(member instanceof BlockTree), member, "an initialiser block");
            if (member instanceof VariableTree) {
                Set<Modifier> flags = ((VariableTree) member).getModifiers().getFlags();
                if (flags.contains(Modifier.STATIC)) {
                    constant((VariableTree) member, flags);
                } else {
                    fields++;
                    due(1, !top || flags.contains(Modifier.PRIVATE), member, "a field that is not private");
                }
            }
            if (top && member instanceof MethodTree
                && ((MethodTree) member).getReturnType() != null
                && ((MethodTree) member).getModifiers().getFlags().contains(Modifier.PUBLIC)) {
                face.add(((MethodTree) member).getName().toString());
            }
        }
        due(11, fields <= MOST_FIELDS, tree, fields + " fields");
        return super.visitClass(tree, none);
    }

    private void constant(VariableTree field, Set<Modifier> flags) {
        boolean plain = Set.of("int", "long", "boolean", "char", "String").contains(field.getType().toString());
        due(5, flags.contains(Modifier.FINAL) && plain && field.getInitializer() != null, field, "static " + field.getName());
    }

    @Override
    public Void visitMethod(MethodTree tree, Void none) {
        ExecutableElement method = (ExecutableElement) element();
        calls.computeIfAbsent(nameOf(method), x -> new TreeSet<>());
        long from = trees.getSourcePositions().getStartPosition(unit, tree);
        long to = trees.getSourcePositions().getEndPosition(unit, tree);
        long lines = unit.getLineMap().getLineNumber(to) - unit.getLineMap().getLineNumber(from) + 1;
        due(11, lines <= MOST_LINES, tree, lines + " lines in " + tree.getName());
        due(11, tree.getParameters().size() <= MOST_PARAMETERS, tree, "parameters of " + tree.getName());
        boolean open = tree.getModifiers().getFlags().contains(Modifier.PUBLIC);
        due(1, open || !face.contains(tree.getName().toString()), tree, "a name of the face's: " + tree.getName());
        due(6, !Set.of("equals", "hashCode", "toString", "finalize", "clone").contains(tree.getName().toString()),
            tree, "method " + tree.getName());
        due(6, tree.getThrows().isEmpty() || tree.getName().contentEquals("value"), tree, "throws of " + tree.getName());
        return super.visitMethod(tree, none);
    }

    // ---- rule 3: types

    @Override
    public Void visitVariable(VariableTree tree, Void none) {
        due(3, isAllowed(trees.getTypeMirror(getCurrentPath())), tree, "type of " + tree);
        return super.visitVariable(tree, none);
    }

    private boolean isAllowed(TypeMirror type) {
        String name = type.toString();
        String plain = name.replace("[]", "");
        int dimensions = (name.length() - plain.length()) / 2;
        if (Set.of("int", "long", "boolean").contains(plain)) {
            return dimensions <= 2;
        }
        return dimensions <= 1 && plain.startsWith("TillPipe.");
    }

    // ---- rule 4: the library, and who calls whom

    @Override
    public Void visitMethodInvocation(MethodInvocationTree tree, Void none) {
        ExecutableElement called = (ExecutableElement) element();
        if (called.getSimpleName().contentEquals("<init>")) {
            return super.visitMethodInvocation(tree, none);
        }
        if (isOwn(called)) {
            ExecutableElement from = method();
            if (from != null) {
                calls.computeIfAbsent(nameOf(from), x -> new TreeSet<>()).add(nameOf(called));
            }
        } else {
            String name = called.getEnclosingElement() + "." + called.getSimpleName();
            due(4, LIBRARY.contains(name), tree, "a call of " + name);
            due(12, !name.equals("java.util.Arrays.copyOf") || isMaking(), tree, "an array of " + name);
        }
        return super.visitMethodInvocation(tree, none);
    }

    // ---- rules 2, 6, 10: what must not stand there

    @Override
    public Void visitLambdaExpression(LambdaExpressionTree tree, Void none) {
        due(2, false, tree, "a lambda");
        return null;
    }

    @Override
    public Void visitMemberReference(MemberReferenceTree tree, Void none) {
        due(2, false, tree, "a method reference");
        return null;
    }

    @Override
    public Void visitSynchronized(SynchronizedTree tree, Void none) {
        due(6, false, tree, "synchronized");
        return null;
    }

    @Override
    public Void visitAssert(AssertTree tree, Void none) {
        due(6, false, tree, "assert");
        return null;
    }

    @Override
    public Void visitTry(TryTree tree, Void none) {
        due(6, false, tree, "nothing of the class throws but for its caller, so nothing is to be caught");
        return null;
    }

    @Override
    public Void visitCatch(CatchTree tree, Void none) {
        due(6, false, tree, "catch");
        return null;
    }

    @Override
    public Void visitInstanceOf(InstanceOfTree tree, Void none) {
        due(7, false, tree, "instanceof");
        return super.visitInstanceOf(tree, none);
    }

    @Override
    public Void visitTypeCast(TypeCastTree tree, Void none) {
        TypeMirror type = trees.getTypeMirror(getCurrentPath());
        due(7, type.getKind() == TypeKind.INT || type.getKind() == TypeKind.LONG, tree, "a cast to " + type);
        return super.visitTypeCast(tree, none);
    }

    @Override
    public Void visitThrow(ThrowTree tree, Void none) {
        ExpressionTree thrown = tree.getExpression();
        boolean plain = thrown instanceof NewClassTree
            && ((NewClassTree) thrown).getIdentifier().toString().equals("NoSuchElementException")
            && ((NewClassTree) thrown).getArguments().stream().allMatch(a -> a.getKind() == Tree.Kind.STRING_LITERAL);
        due(6, plain && method().getSimpleName().contentEquals("value"), tree, "throws " + thrown);
        return super.visitThrow(tree, none);
    }

    @Override
    public Void visitLiteral(LiteralTree tree, Void none) {
        boolean text = tree.getKind() == Tree.Kind.STRING_LITERAL;
        boolean thrown = getCurrentPath().getParentPath().getParentPath().getLeaf() instanceof ThrowTree;
        due(10, !text || thrown, tree, "a text");
        return super.visitLiteral(tree, none);
    }

    // ---- rule 7: divisors

    @Override
    public Void visitBinary(BinaryTree tree, Void none) {
        if (tree.getKind() == Tree.Kind.DIVIDE || tree.getKind() == Tree.Kind.REMAINDER) {
            divisor(tree.getKind() == Tree.Kind.DIVIDE, tree.getRightOperand());
        }
        return super.visitBinary(tree, none);
    }

    @Override
    public Void visitCompoundAssignment(CompoundAssignmentTree tree, Void none) {
        if (tree.getKind() == Tree.Kind.DIVIDE_ASSIGNMENT || tree.getKind() == Tree.Kind.REMAINDER_ASSIGNMENT) {
            divisor(tree.getKind() == Tree.Kind.DIVIDE_ASSIGNMENT, tree.getExpression());
        }
        return super.visitCompoundAssignment(tree, none);
    }

    private void divisor(boolean divides, ExpressionTree by) {
        if (by instanceof LiteralTree) {
            due(7, !"0".equals(by.toString()), by, "by 0");
            return;
        }
        Element named = trees.getElement(new TreePath(getCurrentPath(), by));
        Object constant = named instanceof VariableElement ? ((VariableElement) named).getConstantValue() : null;
        if (constant == null) {
            divisors.add(method().getSimpleName() + (divides ? " / " : " % ") + by);
        } else {
            due(7, ((Number) constant).longValue() != 0, by, "by 0");
        }
    }

    // ---- rule 9: loops

    private void loop(Tree tree, ExpressionTree condition) {
        due(9, condition != null && !condition.toString().replaceAll("[()]", "").equals("true"), tree, "a loop without an end");
    }

    @Override
    public Void visitForLoop(ForLoopTree tree, Void none) {
        loop(tree, tree.getCondition());
        return super.visitForLoop(tree, none);
    }

    @Override
    public Void visitWhileLoop(WhileLoopTree tree, Void none) {
        loop(tree, tree.getCondition());
        return super.visitWhileLoop(tree, none);
    }

    @Override
    public Void visitDoWhileLoop(DoWhileLoopTree tree, Void none) {
        loop(tree, tree.getCondition());
        return super.visitDoWhileLoop(tree, none);
    }

    // ---- rule 12: what is made

    private boolean isMaking() {
        ExecutableElement in = method();
        return in == null || in.getSimpleName().contentEquals("<init>") || MAKING.contains(nameOf(in));
    }

    @Override
    public Void visitNewArray(NewArrayTree tree, Void none) {
        due(12, isMaking(), tree, "an array made in " + method());
        return super.visitNewArray(tree, none);
    }

    @Override
    public Void visitNewClass(NewClassTree tree, Void none) {
        due(12, isMaking(), tree, "an object made in " + method());
        return super.visitNewClass(tree, none);
    }

    // ---- rules 8 and 11: how deep calls go

    private Set<String> reachedFrom(String method) {
        Set<String> seen = new TreeSet<>();
        List<String> work = new ArrayList<>(calls.getOrDefault(method, Set.of()));
        for (int i = 0; i < work.size(); i++) {
            if (seen.add(work.get(i))) {
                work.addAll(calls.getOrDefault(work.get(i), Set.of()));
            }
        }
        return seen;
    }

    /** False: others than those named call themselves, so that no depth can be told. */
    private boolean recursion() {
        Set<String> found = new TreeSet<>();
        for (String method : calls.keySet()) {
            if (reachedFrom(method).contains(method)) {
                found.add(method);
            }
        }
        due(8, found.equals(RECURSIVE), unit, "methods that call themselves or one another: " + found);
        return found.equals(RECURSIVE);
    }

    private void depth() {
        for (String method : calls.keySet()) {
            List<String> chain = deepest(method);
            if (chain.size() > MOST_DEEP) {
                due(11, false, unit, chain.size() + " calls deep: " + chain);
            }
        }
    }

    /** The longest chain of calls from a method on; those that are recursion are left out. */
    private List<String> deepest(String method) {
        List<String> longest = new ArrayList<>();
        Set<String> next = new TreeSet<>(calls.getOrDefault(method, Set.of()));
        if (RECURSIVE.contains(method)) {
            next.addAll(reachedFrom(method));
            next.removeAll(RECURSIVE);
        }
        for (String one : next) {
            List<String> chain = deepest(one);
            if (chain.size() > longest.size()) {
                longest = chain;
            }
        }
        List<String> all = new ArrayList<>();
        if (!RECURSIVE.contains(method)) {
            all.add(method);
        }
        all.addAll(longest);
        return all;
    }
}

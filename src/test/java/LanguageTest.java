import com.sun.source.tree.AnnotationTree;
import com.sun.source.tree.BinaryTree;
import com.sun.source.tree.CatchTree;
import com.sun.source.tree.ClassTree;
import com.sun.source.tree.CompilationUnitTree;
import com.sun.source.tree.CompoundAssignmentTree;
import com.sun.source.tree.ExpressionTree;
import com.sun.source.tree.ImportTree;
import com.sun.source.tree.LambdaExpressionTree;
import com.sun.source.tree.LiteralTree;
import com.sun.source.tree.MemberReferenceTree;
import com.sun.source.tree.MethodInvocationTree;
import com.sun.source.tree.MethodTree;
import com.sun.source.tree.NewClassTree;
import com.sun.source.tree.SynchronizedTree;
import com.sun.source.tree.AssertTree;
import com.sun.source.tree.ThrowTree;
import com.sun.source.tree.Tree;
import com.sun.source.tree.TryTree;
import com.sun.source.tree.VariableTree;
import com.sun.source.util.JavacTask;
import com.sun.source.util.TreePathScanner;
import com.sun.source.util.Trees;
import java.io.IOException;
import java.util.ArrayList;
import java.util.HashMap;
import java.util.HashSet;
import java.util.List;
import java.util.Map;
import java.util.Set;
import javax.lang.model.element.Element;
import javax.lang.model.element.ElementKind;
import javax.lang.model.element.Modifier;
import javax.lang.model.element.TypeElement;
import javax.tools.JavaCompiler;
import javax.tools.StandardJavaFileManager;
import javax.tools.ToolProvider;

/** Those rules of LANGUAGE.md that can be read off the source; each breach is told with its rule and its line. */
public final class LanguageTest extends TreePathScanner<Void, Void> {
    private static final Set<String> EXCEPTIONS = Set.of("IllegalStateException", "IllegalArgumentException",
            "IndexOutOfBoundsException", "ArithmeticException", "UnsupportedOperationException",
            "NoSuchElementException", "RuntimeException");
    private static final Set<String> NUMBER_CALLS = Set.of("compare", "max", "min", "abs", "bitCount", "floorDiv",
            "floorMod", "signum", "numberOfTrailingZeros", "numberOfLeadingZeros");
    private static final Set<String> LIST_CALLS =
            Set.of("add", "get", "set", "remove", "size", "isEmpty", "clear", "of", "iterator");
    private static final Map<String, Set<String>> LIBRARY = Map.of(
            "java.lang.String", Set.of("length", "charAt", "isEmpty", "equals", "indexOf", "substring", "toCharArray"),
            "java.lang.StringBuilder", Set.of("append", "charAt", "setCharAt", "setLength", "deleteCharAt", "reverse",
                    "length", "toString"),
            "java.util.ArrayList", LIST_CALLS, "java.util.List", LIST_CALLS,
            "java.lang.Math", NUMBER_CALLS, "java.lang.Integer", NUMBER_CALLS, "java.lang.Long", NUMBER_CALLS,
            "java.lang.System", Set.of("arraycopy"), "java.util.Arrays", Set.of("copyOf", "copyOfRange", "fill"));

    private final List<String> breaches = new ArrayList<>();
    private final Map<Element, Set<Element>> calls = new HashMap<>();
    private final Trees trees;
    private final CompilationUnitTree unit;
    private int classes;
    private Element method;

    private LanguageTest(JavacTask task, CompilationUnitTree unit) {
        this.trees = Trees.instance(task);
        this.unit = unit;
    }

    public static void main(String[] args) throws IOException {
        JavaCompiler compiler = ToolProvider.getSystemJavaCompiler();
        try (StandardJavaFileManager files = compiler.getStandardFileManager(null, null, null)) {
            JavacTask task = (JavacTask) compiler.getTask(null, files, null, List.of("-proc:none"), null,
                    files.getJavaFileObjects(Papers.SOURCE));
            CompilationUnitTree unit = task.parse().iterator().next();
            task.analyze();
            LanguageTest scan = new LanguageTest(task, unit);
            scan.scan(unit, null);
            scan.check(unit, scan.classes <= 12, "rule 11: classes");
            scan.check(unit, scan.deepest() <= 8, "rule 11: calls go " + scan.deepest() + " deep");
            Due.is("breaches of rules", List.of(), () -> scan.breaches);
            Due.is("calls are found", true, () -> scan.calls.size() > 38);
        }
        Due.end("LanguageTest");
    }

    private void check(Tree tree, boolean isRight, String rule) {
        if (!isRight) {
            long at = trees.getSourcePositions().getStartPosition(unit, tree);
            breaches.add("line " + unit.getLineMap().getLineNumber(at) + ": " + rule);
        }
    }

    private int lines(Tree tree) {
        long from = unit.getLineMap().getLineNumber(trees.getSourcePositions().getStartPosition(unit, tree));
        return (int) (unit.getLineMap().getLineNumber(trees.getSourcePositions().getEndPosition(unit, tree)) - from + 1);
    }

    /** How many calls stand open at once, at most; a call that comes again in its own chain is not counted twice. */
    private int deepest() {
        int deepest = 0;
        for (Element one : calls.keySet()) {
            deepest = Math.max(deepest, depth(one, new HashSet<>()));
        }
        return deepest;
    }

    private int depth(Element one, Set<Element> open) {
        if (!calls.containsKey(one) || !open.add(one)) {
            return 0;
        }
        int below = 0;
        for (Element called : calls.get(one)) {
            below = Math.max(below, depth(called, open));
        }
        open.remove(one);
        return below + 1;
    }

    @Override
    public Void visitCompilationUnit(CompilationUnitTree tree, Void nothing) {
        check(tree, tree.getPackage() == null, "a package line");
        return super.visitCompilationUnit(tree, nothing);
    }

    @Override
    public Void visitImport(ImportTree tree, Void nothing) {
        check(tree, tree.getQualifiedIdentifier().toString().startsWith("java.util."), "rule 4: import");
        return super.visitImport(tree, nothing);
    }

    @Override
    public Void visitClass(ClassTree tree, Void nothing) {
        classes++;
        Element one = trees.getElement(getCurrentPath());
        boolean isInside = one.getEnclosingElement().getKind() != ElementKind.PACKAGE;
        Set<Modifier> is = one.getModifiers();
        check(tree, !isInside || !is.contains(Modifier.PUBLIC) && !is.contains(Modifier.PROTECTED), "rule 1: " + one);
        int fields = 0;
        for (Tree member : tree.getMembers()) {
            boolean isField = member instanceof VariableTree;
            boolean isStatic = isField && ((VariableTree) member).getModifiers().getFlags().contains(Modifier.STATIC);
            check(member, !isStatic || ((VariableTree) member).getModifiers().getFlags().contains(Modifier.FINAL),
                    "rule 5: a static field that is not final");
            check(member, member.getKind() != Tree.Kind.BLOCK, "rule 5: an initialiser block");
            fields += isField && !isStatic ? 1 : 0;
        }
        check(tree, fields <= 20, "rule 11: fields of " + one);
        return super.visitClass(tree, nothing);
    }

    @Override
    public Void visitMethod(MethodTree tree, Void nothing) {
        Element before = method;
        method = trees.getElement(getCurrentPath());
        calls.put(method, new HashSet<>());
        check(tree, tree.getParameters().size() <= 7, "rule 11: parameters");
        check(tree, lines(tree) <= 60, "rule 11: lines of " + tree.getName());
        check(tree, !Set.of("equals", "hashCode", "toString").contains(tree.getName().toString()), "rule 6");
        super.visitMethod(tree, nothing);
        method = before;
        return null;
    }

    @Override
    public Void visitMethodInvocation(MethodInvocationTree tree, Void nothing) {
        Element called = trees.getElement(getCurrentPath());
        String owner = ((TypeElement) called.getEnclosingElement()).getQualifiedName().toString();
        if (owner.startsWith("java.")) {
            boolean isSuper = called.getKind() == ElementKind.CONSTRUCTOR;
            String name = called.getSimpleName().toString();
            check(tree, isSuper || LIBRARY.getOrDefault(owner, Set.of()).contains(name), "rule 4: " + owner + "." + name);
        } else if (method != null) {
            calls.get(method).add(called);
        }
        return super.visitMethodInvocation(tree, nothing);
    }

    @Override
    public Void visitThrow(ThrowTree tree, Void nothing) {
        check(tree, method != null && method.getKind() != ElementKind.CONSTRUCTOR, "rule 6: a throw in a constructor");
        boolean isNew = tree.getExpression() instanceof NewClassTree;
        check(tree, isNew, "rule 6: a throw of what is not new");
        if (isNew) {
            NewClassTree made = (NewClassTree) tree.getExpression();
            List<? extends ExpressionTree> given = made.getArguments();
            check(tree, EXCEPTIONS.contains(made.getIdentifier().toString()), "rule 6: " + made.getIdentifier());
            check(tree, given.isEmpty() || given.size() == 1 && given.get(0) instanceof LiteralTree, "rule 6: no text");
        }
        return super.visitThrow(tree, nothing);
    }

    @Override
    public Void visitTry(TryTree tree, Void nothing) {
        check(tree, tree.getFinallyBlock() == null && tree.getResources().isEmpty(), "rule 6: finally, or resources");
        return super.visitTry(tree, nothing);
    }

    @Override
    public Void visitCatch(CatchTree tree, Void nothing) {
        check(tree, EXCEPTIONS.contains(tree.getParameter().getType().toString()), "rule 6: a catch");
        return super.visitCatch(tree, nothing);
    }

    @Override
    public Void visitLambdaExpression(LambdaExpressionTree tree, Void nothing) {
        check(tree, false, "rule 2: a lambda");
        return super.visitLambdaExpression(tree, nothing);
    }

    @Override
    public Void visitMemberReference(MemberReferenceTree tree, Void nothing) {
        check(tree, false, "rule 2: a method reference");
        return super.visitMemberReference(tree, nothing);
    }

    @Override
    public Void visitSynchronized(SynchronizedTree tree, Void nothing) {
        check(tree, false, "rule 6: synchronized");
        return super.visitSynchronized(tree, nothing);
    }

    @Override
    public Void visitAssert(AssertTree tree, Void nothing) {
        check(tree, false, "rule 6: assert");
        return super.visitAssert(tree, nothing);
    }

    @Override
    public Void visitAnnotation(AnnotationTree tree, Void nothing) {
        check(tree, tree.getAnnotationType().toString().equals("Override"), "rule 4: an annotation");
        return super.visitAnnotation(tree, nothing);
    }

    @Override
    public Void visitBinary(BinaryTree tree, Void nothing) {
        boolean isText = trees.getTypeMirror(getCurrentPath()).toString().equals("java.lang.String");
        check(tree, !isText, "rule 10: texts joined by +");
        return super.visitBinary(tree, nothing);
    }

    @Override
    public Void visitCompoundAssignment(CompoundAssignmentTree tree, Void nothing) {
        boolean isText = trees.getTypeMirror(getCurrentPath()).toString().equals("java.lang.String");
        check(tree, !isText, "rule 10: texts joined by +=");
        return super.visitCompoundAssignment(tree, nothing);
    }
}

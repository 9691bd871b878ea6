import com.sun.source.tree.BinaryTree;
import com.sun.source.tree.BlockTree;
import com.sun.source.tree.ClassTree;
import com.sun.source.tree.CompilationUnitTree;
import com.sun.source.tree.CompoundAssignmentTree;
import com.sun.source.tree.DoWhileLoopTree;
import com.sun.source.tree.EnhancedForLoopTree;
import com.sun.source.tree.ForLoopTree;
import com.sun.source.tree.IdentifierTree;
import com.sun.source.tree.LambdaExpressionTree;
import com.sun.source.tree.LiteralTree;
import com.sun.source.tree.MemberReferenceTree;
import com.sun.source.tree.MemberSelectTree;
import com.sun.source.tree.MethodInvocationTree;
import com.sun.source.tree.MethodTree;
import com.sun.source.tree.NewArrayTree;
import com.sun.source.tree.NewClassTree;
import com.sun.source.tree.ThrowTree;
import com.sun.source.tree.Tree;
import com.sun.source.tree.TryTree;
import com.sun.source.tree.VariableTree;
import com.sun.source.tree.WhileLoopTree;
import com.sun.source.util.JavacTask;
import com.sun.source.util.TreePath;
import com.sun.source.util.TreePathScanner;
import com.sun.source.util.Trees;
import java.io.File;
import java.util.ArrayList;
import java.util.HashMap;
import java.util.HashSet;
import java.util.LinkedHashMap;
import java.util.LinkedHashSet;
import java.util.List;
import java.util.Map;
import java.util.Set;
import javax.lang.model.element.Element;
import javax.lang.model.element.ElementKind;
import javax.lang.model.element.ExecutableElement;
import javax.lang.model.element.Modifier;
import javax.lang.model.element.TypeElement;
import javax.lang.model.type.ArrayType;
import javax.lang.model.type.DeclaredType;
import javax.lang.model.type.TypeMirror;
import javax.tools.JavaCompiler;
import javax.tools.StandardJavaFileManager;
import javax.tools.ToolProvider;

/** The rules of LANGUAGE.md that can be seen from the class as javac reads it: library, types, throws, calls, sizes. */
public final class LanguageTreeTest extends TreePathScanner<Void, Void> {
    private static final int MOST_PARAMETERS = 7;
    private static final int MOST_LINES = 60;
    private static final int MOST_CLASSES = 12;
    private static final int MOST_FIELDS = 20;
    private static final int DEEPEST_CALL = 8;
    private static final Set<String> LIBRARY = Set.of(
        "String.length", "String.charAt", "String.isEmpty", "String.equals", "String.indexOf", "String.substring",
        "String.toCharArray", "StringBuilder.append", "StringBuilder.charAt", "StringBuilder.setCharAt",
        "StringBuilder.setLength", "StringBuilder.deleteCharAt", "StringBuilder.reverse", "StringBuilder.length",
        "StringBuilder.toString", "List.add", "List.get", "List.set", "List.remove", "List.size", "List.isEmpty",
        "List.clear", "List.of", "ArrayList.add", "ArrayList.get", "ArrayList.set", "ArrayList.remove", "ArrayList.size",
        "ArrayList.isEmpty", "ArrayList.clear", "Integer.compare", "Integer.max", "Integer.min", "Integer.bitCount",
        "Long.compare", "Long.max", "Long.min", "Long.bitCount", "Math.max", "Math.min", "Math.abs", "Math.floorDiv",
        "Math.floorMod", "System.arraycopy", "Arrays.copyOf", "Arrays.copyOfRange", "Arrays.fill");
    private static final Set<String> TYPES = Set.of("String", "StringBuilder", "Integer", "ArrayList", "List");
    private static final Set<String> EXCEPTIONS = Set.of("IllegalStateException", "IllegalArgumentException",
        "IndexOutOfBoundsException", "ArithmeticException", "UnsupportedOperationException", "NoSuchElementException",
        "RuntimeException");

    private final Check check = new Check("LanguageTreeTest");
    private final Trees trees;
    private final CompilationUnitTree unit;
    private final Map<Element, Set<Element>> calls = new LinkedHashMap<>();
    private int classes;

    private LanguageTreeTest(Trees trees, CompilationUnitTree unit) {
        this.trees = trees;
        this.unit = unit;
    }

    public static void main(String[] args) throws Exception {
        JavaCompiler compiler = ToolProvider.getSystemJavaCompiler();
        StandardJavaFileManager files = compiler.getStandardFileManager(null, null, null);
        JavacTask task = (JavacTask) compiler.getTask(null, files, null, List.of("-proc:none"), null,
            files.getJavaFileObjects(new File(args.length > 0 ? args[0] : "src/main/java/SamePassers.java")));
        CompilationUnitTree unit = task.parse().iterator().next();
        task.analyze();
        new LanguageTreeTest(Trees.instance(task), unit).look();
    }

    private void look() {
        scan(unit, null);
        check.due("classes in the file are few (rule 11)", classes <= MOST_CLASSES, true);
        check.due("methods found", calls.size() > 100, true);
        lookAtCalls();
        check.end();
    }

    private void rule(int number, Tree tree, boolean kept) {
        long line = unit.getLineMap().getLineNumber(trees.getSourcePositions().getStartPosition(unit, tree));
        check.due("rule " + number + " in line " + line + ": " + tree.toString().split("\n")[0] + " keeps it", kept, true);
    }

    private Element elementHere() {
        return trees.getElement(getCurrentPath());
    }

    private Element methodHere() {
        for (TreePath path = getCurrentPath(); path != null; path = path.getParentPath()) {
            if (path.getLeaf() instanceof MethodTree) {
                return trees.getElement(path);
            }
        }
        return null;
    }

    private boolean isOwn(Element element) {
        Element outer = element;
        while (outer != null && !(outer instanceof TypeElement type && type.getNestingKind().toString().equals("TOP_LEVEL"))) {
            outer = outer.getEnclosingElement();
        }
        return outer != null && outer.getSimpleName().contentEquals("SamePassers");
    }

    private boolean isAllowed(TypeMirror type) {
        if (type instanceof ArrayType row) {
            TypeMirror of = row.getComponentType();
            return of instanceof ArrayType inner ? inner.getComponentType().getKind().isPrimitive() : isAllowed(of);
        }
        if (type instanceof DeclaredType told) {
            Element element = told.asElement();
            return isOwn(element) || TYPES.contains(element.getSimpleName().toString());
        }
        return true;
    }

    @Override
    public Void visitClass(ClassTree tree, Void nothing) {
        classes++;
        boolean inClass = getCurrentPath().getParentPath().getLeaf() instanceof ClassTree;
        int fields = 0;
        for (Tree member : tree.getMembers()) {
            if (member instanceof VariableTree field && !field.getModifiers().getFlags().contains(Modifier.STATIC)) {
                fields++;
            }
            rule(5, member, !(member instanceof BlockTree));
        }
        Set<Modifier> flags = tree.getModifiers().getFlags();
        rule(1, tree, inClass ? flags.contains(Modifier.STATIC) && !flags.contains(Modifier.PUBLIC)
            && !flags.contains(Modifier.PROTECTED) : flags.contains(Modifier.PUBLIC) && flags.contains(Modifier.FINAL));
        check.due("fields of " + tree.getSimpleName() + " are few (rule 11)", fields <= MOST_FIELDS, true);
        return super.visitClass(tree, nothing);
    }

    @Override
    public Void visitMethod(MethodTree tree, Void nothing) {
        calls.computeIfAbsent(elementHere(), made -> new LinkedHashSet<>());
        rule(11, tree, tree.getParameters().size() <= MOST_PARAMETERS);
        long from = unit.getLineMap().getLineNumber(trees.getSourcePositions().getStartPosition(unit, tree));
        long to = unit.getLineMap().getLineNumber(trees.getSourcePositions().getEndPosition(unit, tree));
        rule(11, tree, to - from < MOST_LINES);
        return super.visitMethod(tree, nothing);
    }

    @Override
    public Void visitVariable(VariableTree tree, Void nothing) {
        rule(3, tree, isAllowed(trees.getTypeMirror(getCurrentPath())));
        Set<Modifier> flags = tree.getModifiers().getFlags();
        if (flags.contains(Modifier.STATIC)) {
            TypeMirror type = trees.getTypeMirror(getCurrentPath());
            boolean constant = type.getKind().isPrimitive() || type.toString().equals("java.lang.String");
            rule(5, tree, flags.contains(Modifier.FINAL) && (constant || tree.getInitializer() instanceof NewArrayTree));
        }
        return super.visitVariable(tree, nothing);
    }

    @Override
    public Void visitMethodInvocation(MethodInvocationTree tree, Void nothing) {
        ExecutableElement called = (ExecutableElement) elementHere();
        Element owner = called.getEnclosingElement();
        if (called.getSimpleName().contentEquals("<init>")) {
            return super.visitMethodInvocation(tree, nothing);
        }
        if (isOwn(owner)) {
            Element from = methodHere();
            if (from != null) {
                calls.computeIfAbsent(from, made -> new LinkedHashSet<>()).add(called);
            }
        } else {
            boolean copiesRow = called.getSimpleName().contentEquals("clone")
                && tree.getMethodSelect() instanceof MemberSelectTree select
                && trees.getTypeMirror(new TreePath(getCurrentPath(), select.getExpression())) instanceof ArrayType;
            rule(4, tree, copiesRow || LIBRARY.contains(owner.getSimpleName() + "." + called.getSimpleName()));
        }
        return super.visitMethodInvocation(tree, nothing);
    }

    @Override
    public Void visitMemberSelect(MemberSelectTree tree, Void nothing) {
        lookAtField(tree);
        return super.visitMemberSelect(tree, nothing);
    }

    @Override
    public Void visitIdentifier(IdentifierTree tree, Void nothing) {
        lookAtField(tree);
        return super.visitIdentifier(tree, nothing);
    }

    // Of the library rule 4 lists functions alone, no constants; a row's length has no owner that is a class.
    private void lookAtField(Tree tree) {
        Element element = elementHere();
        if (element != null && element.getKind() == ElementKind.FIELD) {
            boolean length = element.getSimpleName().contentEquals("length") && !(element.getEnclosingElement() instanceof TypeElement told
                && !told.getSimpleName().contentEquals("Array"));
            boolean itself = element.getSimpleName().contentEquals("this") || element.getSimpleName().contentEquals("super");
            rule(4, tree, isOwn(element) || length || itself);
        }
    }

    @Override
    public Void visitNewClass(NewClassTree tree, Void nothing) {
        Element made = elementHere().getEnclosingElement();
        String name = made.getSimpleName().toString();
        boolean thrown = getCurrentPath().getParentPath().getLeaf() instanceof ThrowTree;
        rule(4, tree, isOwn(made) || TYPES.contains(name) || thrown && EXCEPTIONS.contains(name));
        rule(2, tree, tree.getClassBody() == null);
        rule(12, tree, thrown || inConstructorOrField());
        return super.visitNewClass(tree, nothing);
    }

    @Override
    public Void visitNewArray(NewArrayTree tree, Void nothing) {
        rule(12, tree, inConstructorOrField());
        return super.visitNewArray(tree, nothing);
    }

    // No call but the constructor makes anything: all calls of a run live in one room.
    private boolean inConstructorOrField() {
        Element method = methodHere();
        return method == null || method.getKind() == ElementKind.CONSTRUCTOR;
    }

    @Override
    public Void visitThrow(ThrowTree tree, Void nothing) {
        boolean written = tree.getExpression() instanceof NewClassTree made && made.getArguments().size() <= 1
            && (made.getArguments().isEmpty() || made.getArguments().get(0) instanceof LiteralTree)
            && EXCEPTIONS.contains(made.getIdentifier().toString());
        Element method = methodHere();
        rule(6, tree, written && method != null && method.getKind() == ElementKind.METHOD);
        return super.visitThrow(tree, nothing);
    }

    @Override
    public Void visitTry(TryTree tree, Void nothing) {
        rule(6, tree, false);
        return super.visitTry(tree, nothing);
    }

    @Override
    public Void visitLambdaExpression(LambdaExpressionTree tree, Void nothing) {
        rule(2, tree, false);
        return super.visitLambdaExpression(tree, nothing);
    }

    @Override
    public Void visitMemberReference(MemberReferenceTree tree, Void nothing) {
        rule(2, tree, false);
        return super.visitMemberReference(tree, nothing);
    }

    @Override
    public Void visitForLoop(ForLoopTree tree, Void nothing) {
        rule(9, tree, tree.getCondition() != null && !tree.getUpdate().isEmpty());
        return super.visitForLoop(tree, nothing);
    }

    @Override
    public Void visitEnhancedForLoop(EnhancedForLoopTree tree, Void nothing) {
        TypeMirror over = trees.getTypeMirror(new TreePath(getCurrentPath(), tree.getExpression()));
        rule(12, tree, over instanceof ArrayType);
        return super.visitEnhancedForLoop(tree, nothing);
    }

    @Override
    public Void visitWhileLoop(WhileLoopTree tree, Void nothing) {
        rule(9, tree, tree.getCondition() != null && !tree.getCondition().toString().equals("(true)"));
        return super.visitWhileLoop(tree, nothing);
    }

    @Override
    public Void visitDoWhileLoop(DoWhileLoopTree tree, Void nothing) {
        rule(9, tree, !tree.getCondition().toString().equals("(true)"));
        return super.visitDoWhileLoop(tree, nothing);
    }

    @Override
    public Void visitBinary(BinaryTree tree, Void nothing) {
        rule(10, tree, !trees.getTypeMirror(getCurrentPath()).toString().equals("java.lang.String"));
        return super.visitBinary(tree, nothing);
    }

    @Override
    public Void visitCompoundAssignment(CompoundAssignmentTree tree, Void nothing) {
        rule(10, tree, !trees.getTypeMirror(getCurrentPath()).toString().equals("java.lang.String"));
        return super.visitCompoundAssignment(tree, nothing);
    }

    // Methods that call one another in a ring are recursion: they must be private, and count as one call.
    private void lookAtCalls() {
        Map<Element, Set<Element>> reached = new HashMap<>();
        for (Element method : calls.keySet()) {
            reached.put(method, reachedFrom(method));
        }
        Map<Element, Integer> depths = new HashMap<>();
        for (Element method : calls.keySet()) {
            if (reached.get(method).contains(method)) {
                check.due("rule 8: " + method + " calls itself, and is private", method.getModifiers().contains(Modifier.PRIVATE), true);
            }
            int depth = depthOf(method, reached, depths);
            check.due("rule 11: " + method + " goes " + depth + " deep, few enough", depth <= DEEPEST_CALL, true);
        }
    }

    private Set<Element> reachedFrom(Element method) {
        Set<Element> found = new HashSet<>();
        List<Element> open = new ArrayList<>(calls.getOrDefault(method, Set.of()));
        while (!open.isEmpty()) {
            Element next = open.remove(open.size() - 1);
            if (found.add(next)) {
                open.addAll(calls.getOrDefault(next, Set.of()));
            }
        }
        return found;
    }

    private int depthOf(Element method, Map<Element, Set<Element>> reached, Map<Element, Integer> depths) {
        Integer known = depths.get(method);
        if (known != null) {
            return known;
        }
        Set<Element> ring = new LinkedHashSet<>();
        ring.add(method);
        for (Element other : reached.getOrDefault(method, Set.of())) {
            if (reached.getOrDefault(other, Set.of()).contains(method)) {
                ring.add(other);
            }
        }
        int deepest = 0;
        for (Element each : ring) {
            for (Element called : calls.getOrDefault(each, Set.of())) {
                if (!ring.contains(called)) {
                    deepest = Math.max(deepest, depthOf(called, reached, depths));
                }
            }
        }
        depths.put(method, deepest + 1);
        return deepest + 1;
    }
}

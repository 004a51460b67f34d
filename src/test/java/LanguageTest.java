import com.sun.source.tree.AssertTree;
import com.sun.source.tree.CatchTree;
import com.sun.source.tree.ClassTree;
import com.sun.source.tree.CompilationUnitTree;
import com.sun.source.tree.DoWhileLoopTree;
import com.sun.source.tree.ExpressionTree;
import com.sun.source.tree.ForLoopTree;
import com.sun.source.tree.ImportTree;
import com.sun.source.tree.LambdaExpressionTree;
import com.sun.source.tree.LiteralTree;
import com.sun.source.tree.MemberReferenceTree;
import com.sun.source.tree.MethodInvocationTree;
import com.sun.source.tree.MethodTree;
import com.sun.source.tree.NewClassTree;
import com.sun.source.tree.SynchronizedTree;
import com.sun.source.tree.ThrowTree;
import com.sun.source.tree.Tree;
import com.sun.source.tree.TryTree;
import com.sun.source.tree.VariableTree;
import com.sun.source.tree.WhileLoopTree;
import com.sun.source.util.JavacTask;
import com.sun.source.util.SourcePositions;
import com.sun.source.util.TreePathScanner;
import com.sun.source.util.Trees;
import java.io.IOException;
import java.nio.file.Path;
import java.util.ArrayList;
import java.util.LinkedHashMap;
import java.util.LinkedHashSet;
import java.util.List;
import java.util.Map;
import java.util.Set;
import javax.lang.model.element.Element;
import javax.lang.model.element.ExecutableElement;
import javax.lang.model.element.Modifier;
import javax.lang.model.element.TypeElement;
import javax.lang.model.type.ArrayType;
import javax.lang.model.type.DeclaredType;
import javax.lang.model.type.TypeKind;
import javax.lang.model.type.TypeMirror;
import javax.tools.JavaCompiler;
import javax.tools.StandardJavaFileManager;
import javax.tools.ToolProvider;

/** What ../shared/LANGUAGE.md says, as far as the compiler's trees of the class tell it; the numbers are its rules. */
public final class LanguageTest extends TreePathScanner<Void, Void> {
    /** Rule 4: the classes of the library, each with what may be called of it. */
    private static final Map<String, Set<String>> LIBRARY = Map.ofEntries(
        Map.entry("String", Set.of("length", "charAt", "isEmpty", "equals", "indexOf", "substring", "toCharArray", "<init>")),
        Map.entry("StringBuilder", Set.of("<init>", "append", "charAt", "setCharAt", "setLength", "deleteCharAt", "reverse", "length", "toString")),
        Map.entry("ArrayList", Set.of("<init>", "add", "get", "set", "remove", "size", "isEmpty", "clear", "iterator")),
        Map.entry("List", Set.of("add", "get", "set", "remove", "size", "isEmpty", "clear", "iterator", "of")),
        Map.entry("Integer", Set.of("compare", "max", "min", "bitCount", "signum", "intValue", "numberOfTrailingZeros", "numberOfLeadingZeros", "highestOneBit", "lowestOneBit")),
        Map.entry("Long", Set.of("compare", "max", "min", "bitCount", "signum", "numberOfTrailingZeros", "numberOfLeadingZeros")),
        Map.entry("Math", Set.of("max", "min", "abs", "floorDiv", "floorMod")),
        Map.entry("System", Set.of("arraycopy")),
        Map.entry("Arrays", Set.of("copyOf", "copyOfRange", "fill")),
        Map.entry("Iterator", Set.of("hasNext", "next")), Map.entry("Iterable", Set.of("iterator")), Map.entry("Comparable", Set.of("compareTo")),
        Map.entry("Object", Set.of("<init>", "clone")), Map.entry("Enum", Set.of("<init>", "ordinal")), Map.entry("Record", Set.of("<init>")));
    private static final Set<String> EXCEPTIONS = Set.of("IllegalStateException", "IllegalArgumentException", "IndexOutOfBoundsException",
        "ArithmeticException", "UnsupportedOperationException", "NoSuchElementException", "RuntimeException");
    private static final Set<String> IMPORTED = Set.of("java.util.ArrayList", "java.util.List", "java.util.Arrays", "java.util.Iterator",
        "java.util.NoSuchElementException");
    private static final int MOST_CLASSES = 12, MOST_FIELDS = 20, MOST_PARAMETERS = 7, MOST_LINES = 60, DEEPEST = 8;

    private final Trees trees;
    private final SourcePositions places;
    private final CompilationUnitTree unit;
    private final Set<String> faceNames = new LinkedHashSet<>();
    private final Map<Element, Set<Element>> calls = new LinkedHashMap<>();
    private final Set<Element> throwing = new LinkedHashSet<>();
    private final Set<Element> tries = new LinkedHashSet<>();
    private int classes = 0;

    private LanguageTest(Trees trees, CompilationUnitTree unit) {
        this.trees = trees;
        this.unit = unit;
        places = trees.getSourcePositions();
        for (String line : FaceTest.FACE) {
            faceNames.add(line.substring(line.indexOf(' ') + 1, line.indexOf('(')));
        }
    }

    public static void main(String[] args) throws IOException {
        JavaCompiler compiler = ToolProvider.getSystemJavaCompiler();
        Path source = Path.of(System.getProperty("cascade.source", "src/main/java/CascadeHouse.java"));
        try (StandardJavaFileManager files = compiler.getStandardFileManager(null, null, null)) {
            JavacTask task = (JavacTask) compiler.getTask(null, files, null, List.of("-proc:none"), null, files.getJavaFileObjects(source));
            CompilationUnitTree unit = task.parse().iterator().next();
            task.analyze();
            LanguageTest test = new LanguageTest(Trees.instance(task), unit);
            test.scan(unit, null);
            test.depths();
        }
        Check.end();
    }

    private void is(boolean holds, int rule, Tree tree, String what) {
        long line = unit.getLineMap().getLineNumber(places.getStartPosition(unit, tree));
        Check.due("rule " + rule + ", line " + line + ", " + what, holds, true);
    }

    private Element here() {
        return trees.getElement(getCurrentPath());
    }

    // ---- the file and its classes

    @Override
    public Void visitCompilationUnit(CompilationUnitTree tree, Void none) {
        is(tree.getPackage() == null, 1, tree, "no package line");
        is(tree.getTypeDecls().size() == 1, 1, tree, "one class");
        return super.visitCompilationUnit(tree, none);
    }

    @Override
    public Void visitImport(ImportTree tree, Void none) {
        String name = tree.getQualifiedIdentifier().toString();
        is(!tree.isStatic() && IMPORTED.contains(name), 4, tree, name);
        return null;
    }

    @Override
    public Void visitClass(ClassTree tree, Void none) {
        Set<Modifier> is = here().getModifiers();
        boolean isHouse = classes++ == 0;
        is(classes <= MOST_CLASSES, 11, tree, "at most twelve classes");
        boolean isUnnamed = tree.getSimpleName().length() == 0;
        is(is.contains(Modifier.PUBLIC) == isHouse && !is.contains(Modifier.PROTECTED), 1, tree, "public, or inside");
        is(isUnnamed || (isHouse ? is.contains(Modifier.FINAL) : is.contains(Modifier.STATIC)), 1, tree, "final, or static");
        int fields = 0;
        for (Tree member : tree.getMembers()) {
            is(member.getKind() != Tree.Kind.BLOCK, 5, member, "no initialiser block");
            if (member instanceof VariableTree field && !field.getModifiers().getFlags().contains(Modifier.STATIC)) {
                fields++;
            }
        }
        is(fields <= MOST_FIELDS, 11, tree, "at most twenty fields");
        return super.visitClass(tree, none);
    }

    @Override
    public Void visitVariable(VariableTree tree, Void none) {
        Element variable = here();
        Set<Modifier> is = variable.getModifiers();
        is(isType(variable.asType()), 3, tree, variable.asType().toString());
        if (variable.getEnclosingElement() instanceof TypeElement owner) {
            boolean isConstant = is.contains(Modifier.STATIC) && is.contains(Modifier.FINAL);
            is(isConstant || !is.contains(Modifier.STATIC), 5, tree, "static fields are final");
            boolean isHouse = owner.getSimpleName().contentEquals("CascadeHouse");
            is(!isHouse || is.contains(Modifier.PRIVATE) || isConstant && is.contains(Modifier.PUBLIC), 1, tree, "private, or of the face");
        }
        return super.visitVariable(tree, none);
    }

    /** Numbers, own classes, and what the library has; arrays of two dimensions of numbers alone. */
    private static boolean isType(TypeMirror type) {
        if (type instanceof ArrayType row) {
            TypeMirror one = row.getComponentType();
            return one instanceof ArrayType inner ? inner.getComponentType().getKind().isPrimitive() : isType(one);
        }
        if (type instanceof DeclaredType declared) {
            String name = declared.asElement().getSimpleName().toString();
            boolean isOwn = declared.asElement().toString().startsWith("CascadeHouse");
            boolean isFit = isOwn || LIBRARY.containsKey(name) || EXCEPTIONS.contains(name);
            for (TypeMirror part : declared.getTypeArguments()) {
                isFit &= isType(part);
            }
            return isFit;
        }
        return type.getKind().isPrimitive() || type.getKind() == TypeKind.TYPEVAR;
    }

    // ---- methods

    @Override
    public Void visitMethod(MethodTree tree, Void none) {
        ExecutableElement method = (ExecutableElement) here();
        Set<Modifier> is = method.getModifiers();
        boolean isOfHouse = method.getEnclosingElement().getSimpleName().contentEquals("CascadeHouse");
        boolean isFace = isOfHouse && is.contains(Modifier.PUBLIC);
        boolean isMade = method.getSimpleName().contentEquals("<init>");
        calls.computeIfAbsent(method, key -> new LinkedHashSet<>());
        is(isFace || !isOfHouse || is.contains(Modifier.PRIVATE), 1, tree, "private, or of the face");
        is(isFace || !faceNames.contains(method.getSimpleName().toString()), 1, tree, "no name of the face");
        is(isFace || isMade || method.getThrownTypes().isEmpty(), 6, tree, "the face alone tells what it throws");
        is(tree.getParameters().size() <= MOST_PARAMETERS, 11, tree, "at most seven parameters");
        long end = places.getEndPosition(unit, tree);
        if (end >= 0) {
            long lines = unit.getLineMap().getLineNumber(end) - unit.getLineMap().getLineNumber(places.getStartPosition(unit, tree));
            is(lines < MOST_LINES, 11, tree, "a short method");
        }
        String name = method.getSimpleName().toString();
        is(!List.of("equals", "hashCode", "toString").contains(name), 6, tree, "no " + name);
        return super.visitMethod(tree, none);
    }

    @Override
    public Void visitMethodInvocation(MethodInvocationTree tree, Void none) {
        called((ExecutableElement) here(), tree);
        return super.visitMethodInvocation(tree, none);
    }

    @Override
    public Void visitNewClass(NewClassTree tree, Void none) {
        called((ExecutableElement) here(), tree);
        return super.visitNewClass(tree, none);
    }

    /** Keeps which own method calls which; a field's initialiser belongs to the constructors of its class. */
    private void called(ExecutableElement callee, Tree tree) {
        Element owner = callee.getEnclosingElement();
        if (!owner.toString().startsWith("CascadeHouse")) {
            String name = owner.getSimpleName().toString();
            String called = callee.getSimpleName().toString();
            boolean isException = EXCEPTIONS.contains(name) && called.equals("<init>");
            is(isException || LIBRARY.getOrDefault(name, Set.of()).contains(called), 4, tree, name + "." + called);
            return;
        }
        for (Element caller : callers()) {
            calls.computeIfAbsent(caller, key -> new LinkedHashSet<>()).add(callee);
        }
    }

    private List<Element> callers() {
        List<Element> found = new ArrayList<>();
        var path = getCurrentPath();
        while (!(path.getLeaf() instanceof MethodTree) && !(path.getLeaf() instanceof ClassTree)) {
            path = path.getParentPath();
        }
        Element around = trees.getElement(path);
        if (around instanceof ExecutableElement) {
            found.add(around);
        } else {
            for (Element member : around.getEnclosedElements()) {
                if (member.getSimpleName().contentEquals("<init>")) {
                    found.add(member);
                }
            }
        }
        return found;
    }

    // ---- what a call stands on

    private void depths() {
        for (Element method : calls.keySet()) {
            List<Element> deepest = longest(method, new ArrayList<>());
            Check.due("rule 11, calls that are no recursion: " + deepest, deepest.size() <= DEEPEST, true);
            boolean isSelf = calls.get(method).contains(method);
            TypeElement owner = (TypeElement) method.getEnclosingElement();
            boolean isOfKind = owner.getKind().isInterface() || !owner.getInterfaces().isEmpty() || !owner.getSuperclass().toString().equals("java.lang.Object");
            Check.due("rule 8, calls itself, so private or of a kind: " + method, !isSelf || method.getModifiers().contains(Modifier.PRIVATE) || isOfKind, true);
            Check.due("rule 6, no try where a throw stands: " + method, tries.contains(method) && throwing.contains(method), false);
        }
    }

    /** The longest chain of calls from a method on that comes to none twice: recursion is counted by its levels elsewhere. */
    private List<Element> longest(Element method, List<Element> open) {
        List<Element> best = new ArrayList<>();
        open.add(method);
        for (Element callee : calls.getOrDefault(method, Set.of())) {
            List<Element> chain = open.contains(callee) ? best : longest(callee, open);
            best = chain.size() > best.size() ? chain : best;
        }
        open.remove(open.size() - 1);
        best = new ArrayList<>(best);
        best.add(0, method);
        return best;
    }

    // ---- statements and expressions

    @Override
    public Void visitThrow(ThrowTree tree, Void none) {
        boolean isWritten = tree.getExpression() instanceof NewClassTree made && made.getArguments().size() <= 1
            && (made.getArguments().isEmpty() || made.getArguments().get(0) instanceof LiteralTree);
        is(isWritten, 6, tree, "a new exception with a written text, if any");
        for (Element caller : callers()) {
            throwing.add(caller);
            is(!caller.getSimpleName().contentEquals("<init>"), 6, tree, "no throw in a constructor");
        }
        return super.visitThrow(tree, none);
    }

    private void loop(Tree tree, ExpressionTree condition) {
        is(condition != null && !condition.toString().contains("true"), 9, tree, "an end that its own lines tell");
    }

    @Override
    public Void visitForLoop(ForLoopTree tree, Void none) {
        loop(tree, tree.getCondition());
        return super.visitForLoop(tree, none);
    }

    @Override
    public Void visitWhileLoop(WhileLoopTree tree, Void none) {
        loop(tree, tree.getCondition());
        return super.visitWhileLoop(tree, none);
    }

    @Override
    public Void visitDoWhileLoop(DoWhileLoopTree tree, Void none) {
        loop(tree, tree.getCondition());
        return super.visitDoWhileLoop(tree, none);
    }

    @Override
    public Void visitTry(TryTree tree, Void none) {
        tries.addAll(callers());
        is(tree.getFinallyBlock() == null && tree.getResources().isEmpty(), 6, tree, "no finally, no resources");
        return super.visitTry(tree, none);
    }

    /** By its own exceptions alone: what the machine throws is never caught, so RuntimeException is none of them. */
    @Override
    public Void visitCatch(CatchTree tree, Void none) {
        String type = tree.getParameter().getType().toString();
        Set<String> ofTheMachine = Set.of("RuntimeException", "IndexOutOfBoundsException", "ArithmeticException");
        is(EXCEPTIONS.contains(type) && !ofTheMachine.contains(type), 6, tree, "catch of " + type);
        return super.visitCatch(tree, none);
    }

    // ---- what no program has

    private Void isNot(int rule, Tree tree, String what) {
        is(false, rule, tree, what);
        return null;
    }

    @Override
    public Void visitLambdaExpression(LambdaExpressionTree tree, Void none) {
        return isNot(2, tree, "no lambda");
    }

    @Override
    public Void visitMemberReference(MemberReferenceTree tree, Void none) {
        return isNot(2, tree, "no method reference");
    }

    @Override
    public Void visitSynchronized(SynchronizedTree tree, Void none) {
        return isNot(6, tree, "no synchronized");
    }

    @Override
    public Void visitAssert(AssertTree tree, Void none) {
        return isNot(6, tree, "no assert");
    }
}

import com.sun.source.tree.BinaryTree;
import com.sun.source.tree.BlockTree;
import com.sun.source.tree.CatchTree;
import com.sun.source.tree.ClassTree;
import com.sun.source.tree.CompilationUnitTree;
import com.sun.source.tree.EnhancedForLoopTree;
import com.sun.source.tree.ExpressionTree;
import com.sun.source.tree.ForLoopTree;
import com.sun.source.tree.ImportTree;
import com.sun.source.tree.LiteralTree;
import com.sun.source.tree.MethodInvocationTree;
import com.sun.source.tree.MethodTree;
import com.sun.source.tree.NewArrayTree;
import com.sun.source.tree.NewClassTree;
import com.sun.source.tree.ThrowTree;
import com.sun.source.tree.Tree;
import com.sun.source.tree.TryTree;
import com.sun.source.tree.VariableTree;
import com.sun.source.util.JavacTask;
import com.sun.source.util.TreePath;
import com.sun.source.util.TreePathScanner;
import com.sun.source.util.Trees;
import java.io.IOException;
import java.net.URI;
import java.util.ArrayList;
import java.util.HashMap;
import java.util.HashSet;
import java.util.LinkedHashSet;
import java.util.List;
import java.util.Map;
import java.util.Set;
import javax.lang.model.element.Element;
import javax.lang.model.element.ElementKind;
import javax.lang.model.element.ExecutableElement;
import javax.lang.model.element.Modifier;
import javax.lang.model.element.VariableElement;
import javax.lang.model.type.ArrayType;
import javax.lang.model.type.DeclaredType;
import javax.lang.model.type.TypeMirror;
import javax.tools.JavaFileObject;
import javax.tools.SimpleJavaFileObject;
import javax.tools.ToolProvider;

/**
 * Looks a source through for what ../shared/LANGUAGE.md forbids, by the trees of the compiler. It is stricter than the
 * rules where the class needs less than they leave (no recursion, no loops but for, no casts, no doubles), and leaves
 * rule 7 to runs of the class and rule 1 to FaceTest.
 */
final class Language extends TreePathScanner<Void, Void> {
    private static final int MOST_PARAMETERS = 7, MOST_LINES = 60, MOST_CLASSES = 12, MOST_FIELDS = 20, MOST_DEEP = 8;
    private static final Map<Tree.Kind, Integer> FORBIDDEN = Map.of(Tree.Kind.LAMBDA_EXPRESSION, 2,
        Tree.Kind.MEMBER_REFERENCE, 2, Tree.Kind.DOUBLE_LITERAL, 3, Tree.Kind.FLOAT_LITERAL, 3, Tree.Kind.ASSERT, 6,
        Tree.Kind.SYNCHRONIZED, 6, Tree.Kind.TYPE_CAST, 6, Tree.Kind.WHILE_LOOP, 9, Tree.Kind.DO_WHILE_LOOP, 9);
    private static final Set<String> TYPES = Set.of("java.lang.String", "java.lang.StringBuilder", "java.lang.Integer",
        "java.util.ArrayList", "java.util.List");
    private static final Set<String> IMPORTS = Set.of("java.util.ArrayList", "java.util.List", "java.util.Arrays",
        "java.util.NoSuchElementException");
    private static final Set<String> EXCEPTIONS = Set.of("IllegalStateException", "IllegalArgumentException",
        "IndexOutOfBoundsException", "ArithmeticException", "UnsupportedOperationException", "NoSuchElementException",
        "RuntimeException");
    private static final Map<String, Set<String>> LIBRARY = Map.of(
        "Object", Set.of("<init>"),
        "String", Set.of("<init>", "length", "charAt", "isEmpty", "equals", "indexOf", "substring", "toCharArray"),
        "StringBuilder", Set.of("<init>", "append", "charAt", "setCharAt", "setLength", "deleteCharAt", "reverse",
            "length", "toString"),
        "ArrayList", Set.of("<init>", "add", "get", "set", "remove", "size", "isEmpty", "clear"),
        "List", Set.of("add", "get", "set", "remove", "size", "isEmpty", "clear", "of"),
        "Math", Set.of("max", "min", "abs", "floorDiv", "floorMod"),
        "Integer", Set.of("compare", "max", "min", "bitCount"),
        "Long", Set.of("compare", "max", "min", "bitCount"),
        "System", Set.of("arraycopy"),
        "Arrays", Set.of("copyOf", "copyOfRange", "fill"));

    private final Trees trees;
    private final CompilationUnitTree unit;
    private final List<String> faults = new ArrayList<>();
    private final Map<ExecutableElement, Set<ExecutableElement>> calls = new HashMap<>();
    /** Where objects are made behind the constructors, as "method makes class". */
    private final Set<String> makings = new LinkedHashSet<>();
    private int classes = 0;

    private Language(Trees trees, CompilationUnitTree unit) {
        this.trees = trees;
        this.unit = unit;
    }

    static Language read(String text) throws IOException {
        JavaFileObject source = new SimpleJavaFileObject(URI.create("string:///NightValley.java"), JavaFileObject.Kind.SOURCE) {
            @Override
            public CharSequence getCharContent(boolean ignoreEncodingErrors) {
                return text;
            }
        };
        JavacTask task = (JavacTask) ToolProvider.getSystemJavaCompiler().getTask(null, null, null,
            List.of("--release", "17", "-proc:none"), null, List.of(source));
        CompilationUnitTree unit = task.parse().iterator().next();
        task.analyze();
        Language language = new Language(Trees.instance(task), unit);
        language.scan(unit, null);
        language.lookAtDepth();
        return language;
    }

    List<String> faults() {
        return faults;
    }

    Set<String> makings() {
        return makings;
    }

    private void need(boolean kept, int rule, String what) {
        if (!kept) {
            faults.add("rule " + rule + ": " + what);
        }
    }

    private long lineOf(Tree tree, boolean last) {
        long start = trees.getSourcePositions().getStartPosition(unit, tree);
        long at = last ? trees.getSourcePositions().getEndPosition(unit, tree) : start;
        return at < 0 ? 0 : unit.getLineMap().getLineNumber(at);
    }

    private Element element() {
        return trees.getElement(getCurrentPath());
    }

    private static boolean isOwn(Element element) {
        Element top = element;
        while (top != null && top.getKind() != ElementKind.PACKAGE) {
            if (top.getSimpleName().contentEquals("NightValley")) {
                return true;
            }
            top = top.getEnclosingElement();
        }
        return false;
    }

    private ExecutableElement enclosingMethod() {
        for (TreePath path = getCurrentPath(); path != null; path = path.getParentPath()) {
            if (path.getLeaf() instanceof MethodTree) {
                return (ExecutableElement) trees.getElement(path);
            }
        }
        return null;
    }

    @Override
    public Void scan(Tree tree, Void none) {
        if (tree != null) {
            int rule = FORBIDDEN.getOrDefault(tree.getKind(), 0);
            need(rule == 0, rule, tree.getKind() + " in line " + lineOf(tree, false));
        }
        return super.scan(tree, none);
    }

    @Override
    public Void visitCompilationUnit(CompilationUnitTree tree, Void none) {
        need(tree.getPackage() == null, 0, "a package line");
        need(tree.getTypeDecls().size() == 1, 1, "one class beside its inner ones");
        return super.visitCompilationUnit(tree, none);
    }

    @Override
    public Void visitImport(ImportTree tree, Void none) {
        String name = tree.getQualifiedIdentifier().toString();
        need(!tree.isStatic() && IMPORTS.contains(name), 4, "import " + name);
        return null;
    }

    @Override
    public Void visitClass(ClassTree tree, Void none) {
        classes++;
        need(classes <= MOST_CLASSES, 11, "more than twelve classes");
        Tree parent = getCurrentPath().getParentPath().getLeaf();
        boolean inner = parent instanceof ClassTree;
        Set<Modifier> modifiers = tree.getModifiers().getFlags();
        need(inner || parent instanceof CompilationUnitTree, 2, tree.getSimpleName() + " is a class within a method");
        need(!inner || modifiers.contains(Modifier.STATIC), 2, tree.getSimpleName() + " is not static");
        need(!inner || !modifiers.contains(Modifier.PUBLIC), 2, tree.getSimpleName() + " is public");
        int fields = 0;
        for (Tree member : tree.getMembers()) {
            need(!(member instanceof BlockTree), 5, "an initialiser block in " + tree.getSimpleName());
            boolean isField = member instanceof VariableTree;
            fields += isField && !((VariableTree) member).getModifiers().getFlags().contains(Modifier.STATIC) ? 1 : 0;
        }
        need(fields <= MOST_FIELDS, 11, tree.getSimpleName() + " has " + fields + " fields");
        return super.visitClass(tree, none);
    }

    @Override
    public Void visitMethod(MethodTree tree, Void none) {
        ExecutableElement method = (ExecutableElement) element();
        calls.putIfAbsent(method, new LinkedHashSet<>());
        String name = method.getEnclosingElement().getSimpleName() + "." + tree.getName();
        long lines = lineOf(tree, true) - lineOf(tree, false) + 1;
        need(lines <= MOST_LINES, 11, name + " has " + lines + " lines");
        need(tree.getParameters().size() <= MOST_PARAMETERS, 11, name + " has " + tree.getParameters().size() + " parameters");
        boolean ofObject = Set.of("equals", "hashCode", "toString").contains(tree.getName().toString());
        need(!ofObject, 6, name + " is one of Object");
        needType(method.getReturnType(), name);
        return super.visitMethod(tree, none);
    }

    @Override
    public Void visitVariable(VariableTree tree, Void none) {
        VariableElement variable = (VariableElement) element();
        Set<Modifier> modifiers = variable.getModifiers();
        if (variable.getKind() == ElementKind.FIELD && modifiers.contains(Modifier.STATIC)) {
            boolean constant = modifiers.contains(Modifier.FINAL) && variable.getConstantValue() != null;
            need(constant, 5, tree.getName() + " is static and no constant");
        }
        needType(variable.asType(), tree.getName().toString());
        return super.visitVariable(tree, none);
    }

    private void needType(TypeMirror type, String where) {
        switch (type.getKind()) {
            case INT, LONG, SHORT, BYTE, CHAR, BOOLEAN, VOID -> { }
            case ARRAY -> {
                TypeMirror of = ((ArrayType) type).getComponentType();
                need(of.getKind().isPrimitive() || isOwnType(of), 3, where + " is " + type);
            }
            case DECLARED -> need(isLeft((DeclaredType) type), 3, where + " is " + type);
            default -> need(false, 3, where + " is " + type);
        }
    }

    private static boolean isOwnType(TypeMirror type) {
        return type instanceof DeclaredType declared && isOwn(declared.asElement());
    }

    private static boolean isLeft(DeclaredType type) {
        if (isOwn(type.asElement())) {
            return true;
        }
        boolean held = type.getTypeArguments().stream().allMatch(one -> isOwnType(one) || one.toString().equals("java.lang.Integer"));
        String name = type.asElement().toString();
        return held && (TYPES.contains(name) || EXCEPTIONS.contains(type.asElement().getSimpleName().toString()));
    }

    @Override
    public Void visitMethodInvocation(MethodInvocationTree tree, Void none) {
        lookAtCall((ExecutableElement) element(), lineOf(tree, false));
        return super.visitMethodInvocation(tree, none);
    }

    @Override
    public Void visitNewClass(NewClassTree tree, Void none) {
        ExecutableElement constructor = (ExecutableElement) element();
        lookAtCall(constructor, lineOf(tree, false));
        need(tree.getClassBody() == null, 2, "a class without a name in line " + lineOf(tree, false));
        if (!(getCurrentPath().getParentPath().getLeaf() instanceof ThrowTree)) {
            lookAtMaking(constructor.getEnclosingElement().getSimpleName().toString(), lineOf(tree, false));
        }
        return super.visitNewClass(tree, none);
    }

    @Override
    public Void visitNewArray(NewArrayTree tree, Void none) {
        lookAtMaking("a row", lineOf(tree, false));
        return super.visitNewArray(tree, none);
    }

    private void lookAtMaking(String what, long line) {
        ExecutableElement method = enclosingMethod();
        if (method != null && method.getKind() != ElementKind.CONSTRUCTOR) {
            makings.add(method.getSimpleName() + " makes " + what);
            need(!isInLoop(), 12, "an object made in a loop in line " + line);
        }
    }

    private boolean isInLoop() {
        for (TreePath path = getCurrentPath(); path != null; path = path.getParentPath()) {
            if (path.getLeaf() instanceof ForLoopTree || path.getLeaf() instanceof EnhancedForLoopTree) {
                return true;
            }
        }
        return false;
    }

    private void lookAtCall(ExecutableElement called, long line) {
        ExecutableElement method = enclosingMethod();
        if (method != null) {
            calls.computeIfAbsent(method, key -> new LinkedHashSet<>()).add(called);
        }
        String owner = called.getEnclosingElement().getSimpleName().toString();
        if (isOwn(called)) {
            return;
        }
        String name = called.getSimpleName().toString();
        boolean exception = EXCEPTIONS.contains(owner) && name.equals("<init>");
        boolean listed = LIBRARY.getOrDefault(owner, Set.of()).contains(name);
        need(exception || listed, 4, owner + "." + name + " in line " + line);
        String types = called.getParameters().stream().map(one -> one.asType().toString()).toList().toString();
        need(!types.contains("double") && !types.contains("float"), 3, owner + "." + name + types + " in line " + line);
        need(!name.equals("remove") || types.equals("[int]"), 4, "remove" + types + " in line " + line);
    }

    @Override
    public Void visitThrow(ThrowTree tree, Void none) {
        ExpressionTree thrown = tree.getExpression();
        boolean written = thrown instanceof NewClassTree made && EXCEPTIONS.contains(made.getIdentifier().toString())
            && made.getArguments().stream().allMatch(one -> one instanceof LiteralTree);
        need(written, 6, thrown + " in line " + lineOf(tree, false));
        ExecutableElement method = enclosingMethod();
        boolean constructor = method == null || method.getKind() == ElementKind.CONSTRUCTOR;
        need(!constructor, 6, "a throw in a constructor in line " + lineOf(tree, false));
        return super.visitThrow(tree, none);
    }

    @Override
    public Void visitTry(TryTree tree, Void none) {
        need(tree.getFinallyBlock() == null && tree.getResources().isEmpty(), 6, "finally or resources");
        for (CatchTree one : tree.getCatches()) {
            need(EXCEPTIONS.contains(one.getParameter().getType().toString()), 6, "catches " + one.getParameter().getType());
        }
        return super.visitTry(tree, none);
    }

    @Override
    public Void visitForLoop(ForLoopTree tree, Void none) {
        need(tree.getCondition() != null, 9, "a loop without an end in line " + lineOf(tree, false));
        return super.visitForLoop(tree, none);
    }

    @Override
    public Void visitEnhancedForLoop(EnhancedForLoopTree tree, Void none) {
        TypeMirror over = trees.getTypeMirror(new TreePath(getCurrentPath(), tree.getExpression()));
        need(over instanceof ArrayType, 12, "an iterator in line " + lineOf(tree, false));
        return super.visitEnhancedForLoop(tree, none);
    }

    @Override
    public Void visitBinary(BinaryTree tree, Void none) {
        boolean joins = tree.getKind() == Tree.Kind.PLUS && "java.lang.String".equals(String.valueOf(trees.getTypeMirror(getCurrentPath())));
        need(!joins, 10, "texts joined by + in line " + lineOf(tree, false));
        return super.visitBinary(tree, none);
    }

    private void lookAtDepth() {
        for (ExecutableElement method : calls.keySet()) {
            if (method.getModifiers().contains(Modifier.PUBLIC)) {
                int deep = depthOf(method, new HashSet<>());
                need(deep <= MOST_DEEP, 11, method + " goes " + deep + " deep");
            }
        }
    }

    /** How many calls stand open at once below and with this one, the library's first ones too. */
    private int depthOf(ExecutableElement method, Set<ExecutableElement> open) {
        if (!open.add(method)) {
            need(false, 8, method + " calls itself");
            return 0;
        }
        int deepest = 0;
        for (ExecutableElement called : calls.getOrDefault(method, Set.of())) {
            deepest = Math.max(deepest, depthOf(called, open));
        }
        open.remove(method);
        return deepest + 1;
    }
}

import com.sun.source.tree.AssertTree;
import com.sun.source.tree.AssignmentTree;
import com.sun.source.tree.BinaryTree;
import com.sun.source.tree.BlockTree;
import com.sun.source.tree.ClassTree;
import com.sun.source.tree.CompilationUnitTree;
import com.sun.source.tree.CompoundAssignmentTree;
import com.sun.source.tree.DoWhileLoopTree;
import com.sun.source.tree.EnhancedForLoopTree;
import com.sun.source.tree.ExpressionStatementTree;
import com.sun.source.tree.ExpressionTree;
import com.sun.source.tree.ForLoopTree;
import com.sun.source.tree.IdentifierTree;
import com.sun.source.tree.ImportTree;
import com.sun.source.tree.LambdaExpressionTree;
import com.sun.source.tree.LiteralTree;
import com.sun.source.tree.MemberReferenceTree;
import com.sun.source.tree.MemberSelectTree;
import com.sun.source.tree.MethodInvocationTree;
import com.sun.source.tree.MethodTree;
import com.sun.source.tree.NewArrayTree;
import com.sun.source.tree.NewClassTree;
import com.sun.source.tree.StatementTree;
import com.sun.source.tree.SynchronizedTree;
import com.sun.source.tree.ThrowTree;
import com.sun.source.tree.Tree;
import com.sun.source.tree.TryTree;
import com.sun.source.tree.TypeCastTree;
import com.sun.source.tree.UnaryTree;
import com.sun.source.tree.VariableTree;
import com.sun.source.tree.WhileLoopTree;
import com.sun.source.util.JavacTask;
import com.sun.source.util.TreePath;
import com.sun.source.util.TreePathScanner;
import com.sun.source.util.TreeScanner;
import com.sun.source.util.Trees;
import java.net.URI;
import java.util.ArrayList;
import java.util.LinkedHashMap;
import java.util.List;
import java.util.Map;
import java.util.Set;
import java.util.TreeSet;
import javax.lang.model.element.Element;
import javax.lang.model.element.ElementKind;
import javax.lang.model.element.ExecutableElement;
import javax.lang.model.element.Modifier;
import javax.lang.model.element.TypeElement;
import javax.lang.model.element.VariableElement;
import javax.lang.model.type.ArrayType;
import javax.lang.model.type.DeclaredType;
import javax.lang.model.type.TypeKind;
import javax.lang.model.type.TypeMirror;
import javax.tools.JavaCompiler;
import javax.tools.JavaFileObject;
import javax.tools.SimpleJavaFileObject;
import javax.tools.ToolProvider;

/**
 * The rules of LANGUAGE.md, looked at in javac's own tree of the program. Where a tree can't tell, what
 * is asked is narrower than the rule: no while, no cast of objects, constant divisors, nothing made
 * outside constructors, no double. A program that needs one of these may have it by the rule, and then
 * this has to be widened. Not looked at here: whether an index or a reference was tested ahead of its
 * use (AnyCallTest and RandomRunsTest try that by calls), and whether a static row is changed.
 */
final class Rules extends TreePathScanner<Void, Void> {
    private static final Set<String> IMPORTS = Set.of("java.util.Arrays", "java.util.ArrayList", "java.util.List",
            "java.util.Iterator");
    private static final Set<String> LIBRARY = Set.of(
            "String.length", "String.charAt", "String.isEmpty", "String.equals", "String.indexOf", "String.substring",
            "String.toCharArray", "StringBuilder.append", "StringBuilder.charAt", "StringBuilder.setCharAt",
            "StringBuilder.setLength", "StringBuilder.deleteCharAt", "StringBuilder.reverse", "StringBuilder.length",
            "StringBuilder.toString", "ArrayList.add", "ArrayList.get", "ArrayList.set", "ArrayList.remove",
            "ArrayList.size", "ArrayList.isEmpty", "ArrayList.clear", "List.add", "List.get", "List.set", "List.remove",
            "List.size", "List.isEmpty", "List.clear", "List.of", "System.arraycopy", "Arrays.copyOf",
            "Arrays.copyOfRange", "Arrays.fill");
    private static final Set<String> MADE = Set.of("String", "StringBuilder", "ArrayList");
    private static final Set<String> TYPES = Set.of("String", "StringBuilder", "Integer", "ArrayList", "List");

    private final List<String> broken = new ArrayList<>();
    private final Map<String, Set<String>> calls = new LinkedHashMap<>();
    private final Set<String> faceNames = new TreeSet<>();
    private Trees trees;
    private CompilationUnitTree unit;
    private int classes = 0;

    private Rules() {
    }

    /** What breaks a rule, each as "rule N, line L: ..". */
    static List<String> broken(String source) {
        Rules rules = new Rules();
        try {
            rules.look(source);
        } catch (java.io.IOException e) {
            throw new java.io.UncheckedIOException(e);
        }
        return rules.broken;
    }

    private void look(String source) throws java.io.IOException {
        JavaCompiler compiler = ToolProvider.getSystemJavaCompiler();
        JavaFileObject file = new SimpleJavaFileObject(URI.create("string:///RuinHouse.java"), JavaFileObject.Kind.SOURCE) {
            @Override
            public CharSequence getCharContent(boolean ignored) {
                return source;
            }
        };
        JavacTask task = (JavacTask) compiler.getTask(null, null, d -> { }, List.of("-proc:none"), null, List.of(file));
        unit = task.parse().iterator().next();
        task.analyze();
        trees = Trees.instance(task);
        if (source.chars().anyMatch(c -> c > 127)) broken.add("rule 4: a sign above 127");
        if (unit.getPackageName() != null) broken.add("rule 1: a package line");
        if (unit.getTypeDecls().size() != 1) broken.add("rule 1: not just one class");
        scan(unit, null);
        if (classes > 12) broken.add("rule 11: " + classes + " classes");
        for (String method : calls.keySet()) goDeeper(method, new ArrayList<>());
    }

    private void say(int rule, String what, Tree where) {
        long at = trees.getSourcePositions().getStartPosition(unit, where);
        broken.add("rule " + rule + ", line " + unit.getLineMap().getLineNumber(Math.max(at, 0)) + ": " + what);
    }

    private void sayIf(boolean wrong, int rule, String what, Tree where) {
        if (wrong) say(rule, what, where);
    }

    private Element element() {
        return trees.getElement(getCurrentPath());
    }

    private TypeMirror typeOf(Tree tree) {
        return trees.getTypeMirror(new TreePath(getCurrentPath(), tree));
    }

    /** A class of the program itself: all of them are RuinHouse or inside it. */
    private static boolean isOwn(Element type) {
        Element top = type;
        while (top.getEnclosingElement() != null && top.getEnclosingElement().getKind() != ElementKind.PACKAGE) {
            top = top.getEnclosingElement();
        }
        return top.getSimpleName().contentEquals("RuinHouse");
    }

    private static boolean isText(TypeMirror type) {
        return type != null && type.toString().equals("java.lang.String");
    }

    private static boolean isBoxed(TypeMirror type) {
        return type != null && type.toString().equals("java.lang.Integer");
    }

    private static boolean isWhole(TypeMirror type) {
        return type.getKind() == TypeKind.INT || type.getKind() == TypeKind.LONG;
    }

    // Rules 1, 2 and 11: the classes.

    @Override
    public Void visitImport(ImportTree tree, Void none) {
        sayIf(!IMPORTS.contains(tree.getQualifiedIdentifier().toString()), 4, "import " + tree.getQualifiedIdentifier(), tree);
        return null;
    }

    @Override
    public Void visitClass(ClassTree tree, Void none) {
        classes++;
        Element type = element();
        Set<Modifier> mods = type.getModifiers();
        Tree parent = getCurrentPath().getParentPath().getLeaf();
        if (parent instanceof CompilationUnitTree) {
            sayIf(!mods.equals(Set.of(Modifier.PUBLIC, Modifier.FINAL)), 1, "RuinHouse is " + mods, tree);
            for (Element e : type.getEnclosedElements()) {
                if (e.getKind() == ElementKind.METHOD && e.getModifiers().contains(Modifier.PUBLIC)) {
                    faceNames.add(e.getSimpleName().toString());
                }
            }
        } else {
            sayIf(!(parent instanceof ClassTree), 2, "a class that is local or has no name", tree);
            sayIf(!mods.contains(Modifier.STATIC), 2, tree.getSimpleName() + " isn't static", tree);
            sayIf(mods.contains(Modifier.PUBLIC) || mods.contains(Modifier.PROTECTED), 1, "an inner class is " + mods, tree);
        }
        long fields = type.getEnclosedElements().stream()
                .filter(e -> e.getKind() == ElementKind.FIELD && !e.getModifiers().contains(Modifier.STATIC)).count();
        sayIf(fields > 20, 11, fields + " fields", tree);
        return super.visitClass(tree, none);
    }

    @Override
    public Void visitLambdaExpression(LambdaExpressionTree tree, Void none) {
        say(2, "a lambda", tree);
        return super.visitLambdaExpression(tree, none);
    }

    @Override
    public Void visitMemberReference(MemberReferenceTree tree, Void none) {
        say(2, "a method reference", tree);
        return super.visitMemberReference(tree, none);
    }

    // Rules 1, 6 and 11: the methods.

    @Override
    public Void visitMethod(MethodTree tree, Void none) {
        ExecutableElement method = (ExecutableElement) element();
        Set<Modifier> mods = method.getModifiers();
        boolean top = method.getEnclosingElement().getEnclosingElement().getKind() == ElementKind.PACKAGE;
        boolean open = mods.contains(Modifier.PUBLIC);
        String name = tree.getName().toString();
        sayIf(top && !open && !mods.contains(Modifier.PRIVATE), 1, name + " is package-visible", tree);
        sayIf(!(top && open) && faceNames.contains(name), 1, name + " bears a public name", tree);
        sayIf(Set.of("equals", "hashCode", "toString").contains(name), 6, name, tree);
        sayIf(mods.contains(Modifier.SYNCHRONIZED) || !tree.getThrows().isEmpty(), 6, name + " throws or is synchronized", tree);
        sayIf(tree.getParameters().size() > 7, 11, name + " has more than seven parameters", tree);
        long first = unit.getLineMap().getLineNumber(Math.max(trees.getSourcePositions().getStartPosition(unit, tree), 0));
        long last = unit.getLineMap().getLineNumber(Math.max(trees.getSourcePositions().getEndPosition(unit, tree), 1));
        sayIf(last - first >= 60, 11, name + " is long", tree);
        calls.computeIfAbsent(key(method), k -> new TreeSet<>());
        if (tree.getReturnType() != null) lookAtType(method.getReturnType(), tree);
        return super.visitMethod(tree, none);
    }

    // Rules 3 and 5: the types, and what is static.

    @Override
    public Void visitVariable(VariableTree tree, Void none) {
        VariableElement variable = (VariableElement) element();
        lookAtType(variable.asType(), tree);
        if (variable.getKind() == ElementKind.FIELD) {
            boolean top = variable.getEnclosingElement().getEnclosingElement().getKind() == ElementKind.PACKAGE;
            Set<Modifier> mods = variable.getModifiers();
            sayIf(top && !mods.contains(Modifier.PRIVATE) && !tree.getName().contentEquals("NONE"), 1,
                    tree.getName() + " is open", tree);
            if (mods.contains(Modifier.STATIC)) lookAtStatic(tree, variable);
        }
        return super.visitVariable(tree, none);
    }

    private void lookAtType(TypeMirror type, Tree where) {
        TypeMirror each = type;
        int rows = 0;
        while (each instanceof ArrayType array) {
            each = array.getComponentType();
            rows++;
        }
        boolean number = each.getKind().isPrimitive() && each.getKind() != TypeKind.BOOLEAN;
        sayIf(rows > 2 || rows == 2 && !number, 3, type + " has too many dimensions", where);
        sayIf(each.getKind() == TypeKind.DOUBLE || each.getKind() == TypeKind.FLOAT, 3, "a " + each, where);
        if (each instanceof DeclaredType declared) {
            Element is = declared.asElement();
            boolean fine = isOwn(is) || TYPES.contains(is.getSimpleName().toString());
            sayIf(!fine || rows > 0 && !isOwn(is), 3, "of type " + type, where);
        }
    }

    private void lookAtStatic(VariableTree tree, VariableElement field) {
        sayIf(!field.getModifiers().contains(Modifier.FINAL), 5, tree.getName() + " isn't final", tree);
        TypeMirror type = field.asType();
        boolean constant = Set.of("int", "long", "boolean", "char", "java.lang.String").contains(type.toString());
        boolean row = Set.of("int[]", "long[]", "char[]", "byte[]").contains(type.toString());
        boolean written = tree.getInitializer() instanceof NewArrayTree made && made.getInitializers() != null;
        sayIf(!constant && !(row && written), 5, tree.getName() + " is no constant", tree);
        sayIf(constant && field.getConstantValue() == null, 5, tree.getName() + " isn't known to javac", tree);
    }

    @Override
    public Void visitBlock(BlockTree tree, Void none) {
        sayIf(tree.isStatic(), 5, "a static initialiser", tree);
        return super.visitBlock(tree, none);
    }

    // Rules 4, 7, 8 and 12: what is called and made.

    private static String key(ExecutableElement method) {
        return method.getEnclosingElement().getSimpleName() + "." + method;
    }

    private String methodAround() {
        for (TreePath path = getCurrentPath(); path != null; path = path.getParentPath()) {
            if (path.getLeaf() instanceof MethodTree) return key((ExecutableElement) trees.getElement(path));
        }
        return "a field";
    }

    @Override
    public Void visitMethodInvocation(MethodInvocationTree tree, Void none) {
        ExecutableElement method = (ExecutableElement) element();
        Element type = method.getEnclosingElement();
        String name = type.getSimpleName() + "." + method.getSimpleName();
        boolean isSuper = method.getKind() == ElementKind.CONSTRUCTOR;
        calls.computeIfAbsent(methodAround(), k -> new TreeSet<>()).add(key(method));
        if (!isOwn(type) && !isSuper && !isClone(tree)) {
            boolean counts = Set.of("Math", "Long", "Integer").contains(type.getSimpleName().toString());
            sayIf(counts ? !isPlainFunction(method) : !LIBRARY.contains(name), 4, name, tree);
        }
        if (name.equals("Math.floorDiv") || name.equals("Math.floorMod")) lookAtDivisor(tree.getArguments().get(1));
        boolean inside = methodAround().contains("(") && isConstructor();
        sayIf(inside && isOwn(type) && !type.getModifiers().contains(Modifier.FINAL)
                && !method.getModifiers().contains(Modifier.PRIVATE) && !method.getModifiers().contains(Modifier.STATIC),
                12, "a constructor calls " + name, tree);
        sayIf(inside && tree.getArguments().stream().anyMatch(a -> a.toString().equals("this")), 12, "hands out this", tree);
        return super.visitMethodInvocation(tree, none);
    }

    private boolean isClone(MethodInvocationTree tree) {
        return tree.getMethodSelect() instanceof MemberSelectTree select && select.getIdentifier().contentEquals("clone")
                && trees.getTypeMirror(new TreePath(new TreePath(getCurrentPath(), select), select.getExpression()))
                        instanceof ArrayType;
    }

    /** Over int and long alone, static, and not one that ends in Exact. */
    private static boolean isPlainFunction(ExecutableElement method) {
        return method.getModifiers().contains(Modifier.STATIC)
                && !method.getSimpleName().toString().endsWith("Exact")
                && method.getReturnType().getKind().isPrimitive()
                && method.getParameters().stream().allMatch(p -> isWhole(p.asType()));
    }

    private boolean isConstructor() {
        for (TreePath path = getCurrentPath(); path != null; path = path.getParentPath()) {
            if (path.getLeaf() instanceof MethodTree method) return method.getName().contentEquals("<init>");
        }
        return true;
    }

    @Override
    public Void visitNewClass(NewClassTree tree, Void none) {
        ExecutableElement made = (ExecutableElement) element();
        Element type = made.getEnclosingElement();
        calls.computeIfAbsent(methodAround(), k -> new TreeSet<>()).add(key(made));
        sayIf(tree.getClassBody() != null, 2, "a class without a name", tree);
        sayIf(!isOwn(type) && !MADE.contains(type.getSimpleName().toString()), 4, "new " + type, tree);
        sayIf(!isConstructor(), 12, "an object made outside a constructor", tree);
        sayIf(tree.getArguments().stream().anyMatch(a -> a.toString().equals("this")), 12, "hands out this", tree);
        return super.visitNewClass(tree, none);
    }

    @Override
    public Void visitNewArray(NewArrayTree tree, Void none) {
        sayIf(!isConstructor(), 12, "an array made outside a constructor", tree);
        return super.visitNewArray(tree, none);
    }

    /** A constant of the library is none of its functions. */
    @Override
    public Void visitMemberSelect(MemberSelectTree tree, Void none) {
        Element e = element();
        boolean length = tree.getIdentifier().contentEquals("length");
        sayIf(e != null && e.getKind() == ElementKind.FIELD && !length && !isOwn(e.getEnclosingElement()), 4,
                tree.toString(), tree);
        return super.visitMemberSelect(tree, none);
    }

    private void lookAtDivisor(ExpressionTree divisor) {
        Tree bare = divisor;
        Object value = bare instanceof LiteralTree literal ? literal.getValue() : null;
        if (bare instanceof IdentifierTree && trees.getElement(new TreePath(getCurrentPath(), bare)) instanceof VariableElement v) {
            value = v.getConstantValue();
        }
        sayIf(!(value instanceof Number n) || n.longValue() == 0L, 7, "divides by " + divisor, divisor);
    }

    /** Rule 8: no recursion at all; rule 11: at most eight calls deep, the library's own one among them. */
    private void goDeeper(String method, List<String> above) {
        List<String> path = new ArrayList<>(above);
        path.add(method);
        if (above.contains(method)) {
            broken.add("rule 8: " + path);
        } else if (path.size() > 8) {
            broken.add("rule 11: too deep: " + path);
        } else {
            for (String called : calls.getOrDefault(method, Set.of())) goDeeper(called, path);
        }
    }

    // Rule 6, and 10: words that are barred, and what two values do with each other.

    @Override
    public Void visitThrow(ThrowTree tree, Void none) {
        say(6, "throw", tree);
        return super.visitThrow(tree, none);
    }

    @Override
    public Void visitTry(TryTree tree, Void none) {
        say(6, "try", tree);
        return super.visitTry(tree, none);
    }

    @Override
    public Void visitSynchronized(SynchronizedTree tree, Void none) {
        say(6, "synchronized", tree);
        return super.visitSynchronized(tree, none);
    }

    @Override
    public Void visitAssert(AssertTree tree, Void none) {
        say(6, "assert", tree);
        return super.visitAssert(tree, none);
    }

    @Override
    public Void visitTypeCast(TypeCastTree tree, Void none) {
        sayIf(!typeOf(tree.getType()).getKind().isPrimitive(), 6, "a cast of an object", tree);
        return super.visitTypeCast(tree, none);
    }

    @Override
    public Void visitBinary(BinaryTree tree, Void none) {
        TypeMirror left = typeOf(tree.getLeftOperand());
        TypeMirror right = typeOf(tree.getRightOperand());
        boolean same = tree.getKind() == Tree.Kind.EQUAL_TO || tree.getKind() == Tree.Kind.NOT_EQUAL_TO;
        sayIf(same && isText(left) && isText(right), 6, "two Strings by ==", tree);
        sayIf(same && isBoxed(left) && isBoxed(right), 6, "two Integers by ==", tree);
        sayIf(tree.getKind() == Tree.Kind.PLUS && (isText(left) || isText(right)), 10, "texts joined by +", tree);
        if (tree.getKind() == Tree.Kind.DIVIDE || tree.getKind() == Tree.Kind.REMAINDER) {
            lookAtDivisor(tree.getRightOperand());
        }
        return super.visitBinary(tree, none);
    }

    @Override
    public Void visitCompoundAssignment(CompoundAssignmentTree tree, Void none) {
        sayIf(isText(typeOf(tree.getVariable())), 10, "texts joined by +=", tree);
        if (tree.getKind() == Tree.Kind.DIVIDE_ASSIGNMENT || tree.getKind() == Tree.Kind.REMAINDER_ASSIGNMENT) {
            lookAtDivisor(tree.getExpression());
        }
        return super.visitCompoundAssignment(tree, none);
    }

    // Rule 9: loops. A counter that its own header moves, and nothing else, against a bound.

    @Override
    public Void visitWhileLoop(WhileLoopTree tree, Void none) {
        say(9, "a while, whose end isn't seen here", tree);
        return super.visitWhileLoop(tree, none);
    }

    @Override
    public Void visitDoWhileLoop(DoWhileLoopTree tree, Void none) {
        say(9, "a do, whose end isn't seen here", tree);
        return super.visitDoWhileLoop(tree, none);
    }

    @Override
    public Void visitEnhancedForLoop(EnhancedForLoopTree tree, Void none) {
        sayIf(!(typeOf(tree.getExpression()) instanceof ArrayType), 12, "a loop over no array makes an iterator", tree);
        return super.visitEnhancedForLoop(tree, none);
    }

    @Override
    public Void visitForLoop(ForLoopTree tree, Void none) {
        String counter = tree.getInitializer().size() == 1 && tree.getInitializer().get(0) instanceof VariableTree v
                ? v.getName().toString() : "";
        String step = tree.getUpdate().size() == 1 ? moved(tree.getUpdate().get(0).getExpression()) : "";
        boolean bound = tree.getCondition() != null && names(tree.getCondition()).contains(counter);
        sayIf(counter.isEmpty() || !counter.equals(step) || !bound, 9, "a for without a counter", tree);
        sayIf(assigned(tree.getStatement()).contains(counter), 9, "its counter is moved inside", tree);
        return super.visitForLoop(tree, none);
    }

    /** The variable that an expression moves, or "". */
    private static String moved(ExpressionTree tree) {
        if (tree instanceof UnaryTree unary && Set.of(Tree.Kind.POSTFIX_INCREMENT, Tree.Kind.POSTFIX_DECREMENT,
                Tree.Kind.PREFIX_INCREMENT, Tree.Kind.PREFIX_DECREMENT).contains(tree.getKind())) {
            return unary.getExpression().toString();
        }
        if (tree instanceof CompoundAssignmentTree compound) return compound.getVariable().toString();
        return tree instanceof AssignmentTree assignment ? assignment.getVariable().toString() : "";
    }

    private static Set<String> names(Tree tree) {
        Set<String> names = new TreeSet<>();
        new TreeScanner<Void, Void>() {
            @Override
            public Void visitIdentifier(IdentifierTree name, Void none) {
                names.add(name.getName().toString());
                return null;
            }
        }.scan(tree, null);
        return names;
    }

    private static Set<String> assigned(StatementTree body) {
        Set<String> names = new TreeSet<>();
        new TreeScanner<Void, Void>() {
            @Override
            public Void scan(Tree tree, Void none) {
                if (tree instanceof ExpressionTree expression) names.add(moved(expression));
                if (tree instanceof ExpressionStatementTree statement) names.add(moved(statement.getExpression()));
                return super.scan(tree, none);
            }
        }.scan(body, null);
        return names;
    }
}

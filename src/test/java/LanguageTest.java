import com.sun.source.tree.AssertTree;
import com.sun.source.tree.BinaryTree;
import com.sun.source.tree.BlockTree;
import com.sun.source.tree.ClassTree;
import com.sun.source.tree.CompilationUnitTree;
import com.sun.source.tree.CompoundAssignmentTree;
import com.sun.source.tree.ImportTree;
import com.sun.source.tree.LambdaExpressionTree;
import com.sun.source.tree.LiteralTree;
import com.sun.source.tree.MemberReferenceTree;
import com.sun.source.tree.MemberSelectTree;
import com.sun.source.tree.MethodInvocationTree;
import com.sun.source.tree.MethodTree;
import com.sun.source.tree.NewArrayTree;
import com.sun.source.tree.NewClassTree;
import com.sun.source.tree.SynchronizedTree;
import com.sun.source.tree.ThrowTree;
import com.sun.source.tree.Tree;
import com.sun.source.tree.TryTree;
import com.sun.source.tree.VariableTree;
import com.sun.source.util.JavacTask;
import com.sun.source.util.TreePath;
import com.sun.source.util.TreePathScanner;
import com.sun.source.util.Trees;
import java.io.IOException;
import java.nio.file.Path;
import java.util.HashMap;
import java.util.HashSet;
import java.util.List;
import java.util.Map;
import java.util.Set;
import javax.lang.model.element.Element;
import javax.lang.model.element.ElementKind;
import javax.lang.model.element.Modifier;
import javax.lang.model.type.ArrayType;
import javax.lang.model.type.DeclaredType;
import javax.lang.model.type.TypeKind;
import javax.lang.model.type.TypeMirror;
import javax.tools.JavaCompiler;
import javax.tools.StandardJavaFileManager;
import javax.tools.ToolProvider;

/**
 * What javac's own tree of the source tells of LANGUAGE.md: rules 2 to 6, 8, and 10 to 12.
 * Rule 1 is held by FaceTest, rule 7 by NeverThrowsTest; that every loop ends (rule 9) is left to the reader.
 * It asks for more than the rules do in two things, which the class has no need of: that no method calls itself,
 * and that no call makes an object or a row.
 */
public final class LanguageTest extends TreePathScanner<Void, Void> {
    private static final Path SOURCE = Path.of("src/main/java/FlapDamper.java");
    private static final int MOST_PARAMETERS = 7;
    private static final int MOST_LINES = 60;
    private static final int MOST_DEPTH = 8;
    private static final int MOST_CLASSES = 12;
    private static final int MOST_FIELDS = 20;
    private static final Set<String> IMPORTS = Set.of("java.util.Arrays", "java.util.ArrayList", "java.util.List",
        "java.util.Iterator");
    private static final Set<String> LIBRARY_TYPES = Set.of("java.lang.String", "java.lang.StringBuilder",
        "java.lang.Integer", "java.util.ArrayList", "java.util.List");
    private static final Set<String> OF_LISTS = Set.of("add", "get", "set", "remove", "size", "isEmpty", "clear", "of");
    private static final Map<String, Set<String>> LIBRARY = Map.of(
        "java.lang.Object", Set.of("<init>"),
        "java.lang.String",
        Set.of("length", "charAt", "isEmpty", "equals", "indexOf", "substring", "toCharArray"),
        "java.lang.StringBuilder",
        Set.of("append", "charAt", "setCharAt", "setLength", "deleteCharAt", "reverse", "length", "toString"),
        "java.util.ArrayList", OF_LISTS,
        "java.util.List", OF_LISTS,
        "java.lang.System", Set.of("arraycopy"),
        "java.util.Arrays", Set.of("copyOf", "copyOfRange", "fill"));
    private static final Set<String> NUMBERS = Set.of("java.lang.Math", "java.lang.Integer", "java.lang.Long");

    private final Trees trees;
    private final CompilationUnitTree unit;
    private final Map<Element, Set<Element>> calls = new HashMap<>();
    private int classes;

    private LanguageTest(Trees trees, CompilationUnitTree unit) {
        this.trees = trees;
        this.unit = unit;
    }

    public static void main(String[] args) throws IOException {
        JavaCompiler compiler = ToolProvider.getSystemJavaCompiler();
        try (StandardJavaFileManager files = compiler.getStandardFileManager(null, null, null)) {
            JavacTask task = (JavacTask) compiler.getTask(null, files, null, List.of("--release", "17"), null,
                files.getJavaFileObjects(SOURCE));
            CompilationUnitTree unit = task.parse().iterator().next();
            task.analyze();
            LanguageTest test = new LanguageTest(Trees.instance(task), unit);
            test.scan(unit, null);
            test.checkWhole();
        }
        Check.end();
    }

    private void checkWhole() {
        Check.due("classes in the file beside each other", unit.getTypeDecls().size(), 1);
        Check.due("the package line", String.valueOf(unit.getPackageName()), "null");
        holds(11, unit, "at most twelve classes", classes <= MOST_CLASSES);
        for (Element method : calls.keySet()) {
            int depth = depthOf(method, new HashSet<>());
            Check.due("rule 8 and 11: " + method + " calls no deeper than eight, and not itself",
                depth <= MOST_DEPTH ? 1 : 0, 1);
        }
    }

    /** How many calls stand open at once from this method on; more than any bound if one calls itself. */
    private int depthOf(Element method, Set<Element> open) {
        if (!open.add(method)) {
            return 1000;
        }
        int deepest = 0;
        for (Element called : calls.getOrDefault(method, Set.of())) {
            deepest = Math.max(deepest, depthOf(called, open));
        }
        open.remove(method);
        return deepest + 1;
    }

    private void holds(int rule, Tree tree, String what, boolean holds) {
        long at = unit.getLineMap().getLineNumber(start(tree));
        Check.due("rule " + rule + ", line " + at + ": " + what, holds ? 1 : 0, 1);
    }

    private long start(Tree tree) {
        return trees.getSourcePositions().getStartPosition(unit, tree);
    }

    private long linesOf(Tree tree) {
        long end = trees.getSourcePositions().getEndPosition(unit, tree);
        return unit.getLineMap().getLineNumber(end) - unit.getLineMap().getLineNumber(start(tree)) + 1;
    }

    private Element element() {
        return trees.getElement(getCurrentPath());
    }

    private TypeMirror typeOf(Tree tree) {
        return trees.getTypeMirror(new TreePath(getCurrentPath(), tree));
    }

    private static boolean isOwn(Element element) {
        Element outer = element;
        while (outer.getEnclosingElement() != null && outer.getEnclosingElement().getKind() != ElementKind.PACKAGE) {
            outer = outer.getEnclosingElement();
        }
        return outer.toString().equals("FlapDamper");
    }

    private static boolean isText(TypeMirror type) {
        return type != null && type.toString().equals("java.lang.String");
    }

    // ---- rules 2, 11: classes and methods

    @Override
    public Void visitClass(ClassTree tree, Void none) {
        classes++;
        boolean isOuter = getCurrentPath().getParentPath().getLeaf() == unit;
        boolean isMember = getCurrentPath().getParentPath().getLeaf() instanceof ClassTree;
        boolean isStatic = element().getModifiers().contains(Modifier.STATIC);
        holds(2, tree, "a class inside is a static member", isOuter || isMember && isStatic);
        long fields = tree.getMembers().stream().filter(LanguageTest::isFieldOfObject).count();
        holds(11, tree, "at most twenty fields", fields <= MOST_FIELDS);
        return super.visitClass(tree, none);
    }

    private static boolean isFieldOfObject(Tree member) {
        return member instanceof VariableTree field && !field.getModifiers().getFlags().contains(Modifier.STATIC);
    }

    @Override
    public Void visitMethod(MethodTree tree, Void none) {
        calls.putIfAbsent(element(), new HashSet<>());
        holds(11, tree, "at most seven parameters", tree.getParameters().size() <= MOST_PARAMETERS);
        holds(11, tree, "some sixty lines", linesOf(tree) <= MOST_LINES);
        Set<String> notOwn = Set.of("equals", "hashCode", "toString");
        holds(6, tree, "no equals, hashCode, toString of own", !notOwn.contains(tree.getName().toString()));
        if (tree.getReturnType() != null) {
            holds(3, tree, "type of an answer", mayStand(typeOf(tree.getReturnType())));
        }
        return super.visitMethod(tree, none);
    }

    @Override
    public Void visitLambdaExpression(LambdaExpressionTree tree, Void none) {
        holds(2, tree, "no lambda", false);
        return super.visitLambdaExpression(tree, none);
    }

    @Override
    public Void visitMemberReference(MemberReferenceTree tree, Void none) {
        holds(2, tree, "no method reference", false);
        return super.visitMemberReference(tree, none);
    }

    // ---- rules 3, 5: types and static fields

    @Override
    public Void visitVariable(VariableTree tree, Void none) {
        TypeMirror type = element().asType();
        holds(3, tree, "type " + type, mayStand(type));
        if (element().getModifiers().contains(Modifier.STATIC)) {
            holds(5, tree, "static and final", element().getModifiers().contains(Modifier.FINAL));
            holds(5, tree, "a constant, or a row that is written out", isConstant(tree, type));
        }
        return super.visitVariable(tree, none);
    }

    private static boolean isConstant(VariableTree tree, TypeMirror type) {
        if (type.getKind() == TypeKind.ARRAY) {
            return tree.getInitializer() instanceof NewArrayTree row && row.getInitializers() != null;
        }
        return type.getKind().isPrimitive() || isText(type);
    }

    private static boolean mayStand(TypeMirror type) {
        if (type.getKind() == TypeKind.ARRAY) {
            return mayStandInRow(((ArrayType) type).getComponentType());
        }
        if (type.getKind() == TypeKind.DECLARED) {
            Element declared = ((DeclaredType) type).asElement();
            return isOwn(declared) || LIBRARY_TYPES.contains(declared.toString());
        }
        return type.getKind().isPrimitive() || type.getKind() == TypeKind.VOID;
    }

    private static boolean mayStandInRow(TypeMirror part) {
        if (part.getKind() == TypeKind.ARRAY) {
            return ((ArrayType) part).getComponentType().getKind().isPrimitive();
        }
        return part.getKind().isPrimitive() || part.getKind() == TypeKind.DECLARED
            && isOwn(((DeclaredType) part).asElement());
    }

    @Override
    public Void visitBlock(BlockTree tree, Void none) {
        holds(5, tree, "no static initialiser block", !tree.isStatic());
        return super.visitBlock(tree, none);
    }

    // ---- rule 4: the library

    @Override
    public Void visitImport(ImportTree tree, Void none) {
        holds(4, tree, tree.toString().trim(), IMPORTS.contains(tree.getQualifiedIdentifier().toString()));
        return null;
    }

    @Override
    public Void visitMethodInvocation(MethodInvocationTree tree, Void none) {
        Element called = element();
        if (isOwn(called)) {
            noteCall(called);
        } else {
            holds(4, tree, tree.getMethodSelect().toString(), mayBeCalled(tree, called));
        }
        return super.visitMethodInvocation(tree, none);
    }

    private boolean mayBeCalled(MethodInvocationTree tree, Element called) {
        String name = called.getSimpleName().toString();
        String owner = called.getEnclosingElement().toString();
        if (name.equals("clone") && tree.getMethodSelect() instanceof MemberSelectTree select) {
            TreePath selected = new TreePath(getCurrentPath(), select);
            return trees.getTypeMirror(new TreePath(selected, select.getExpression())).getKind() == TypeKind.ARRAY;
        }
        if (NUMBERS.contains(owner)) {
            return called.getModifiers().contains(Modifier.STATIC) && !name.endsWith("Exact") && !name.equals("random");
        }
        return LIBRARY.getOrDefault(owner, Set.of()).contains(name);
    }

    private void noteCall(Element called) {
        for (Tree leaf : getCurrentPath()) {
            if (leaf instanceof MethodTree) {
                Element caller = trees.getElement(TreePath.getPath(unit, leaf));
                calls.computeIfAbsent(caller, key -> new HashSet<>()).add(called);
                return;
            }
        }
    }

    // ---- rule 6: what may not stand at all

    @Override
    public Void visitThrow(ThrowTree tree, Void none) {
        holds(6, tree, "no throw", false);
        return super.visitThrow(tree, none);
    }

    @Override
    public Void visitTry(TryTree tree, Void none) {
        holds(6, tree, "no try", false);
        return super.visitTry(tree, none);
    }

    @Override
    public Void visitSynchronized(SynchronizedTree tree, Void none) {
        holds(6, tree, "no synchronized", false);
        return super.visitSynchronized(tree, none);
    }

    @Override
    public Void visitAssert(AssertTree tree, Void none) {
        holds(6, tree, "no assert", false);
        return super.visitAssert(tree, none);
    }

    // ---- rules 4, 6, 10: texts

    @Override
    public Void visitBinary(BinaryTree tree, Void none) {
        boolean isOfTexts = isText(typeOf(tree.getLeftOperand())) || isText(typeOf(tree.getRightOperand()));
        holds(10, tree, "neither + nor == on a text", !isOfTexts);
        return super.visitBinary(tree, none);
    }

    @Override
    public Void visitCompoundAssignment(CompoundAssignmentTree tree, Void none) {
        holds(10, tree, "no += on a text", !isText(typeOf(tree.getVariable())));
        return super.visitCompoundAssignment(tree, none);
    }

    @Override
    public Void visitLiteral(LiteralTree tree, Void none) {
        if (tree.getValue() instanceof String text) {
            holds(4, tree, "signs 1 to 127", text.chars().allMatch(sign -> sign >= 1 && sign <= 127));
        }
        return super.visitLiteral(tree, none);
    }

    // ---- rule 12: rows are made in constructors and used again

    @Override
    public Void visitNewClass(NewClassTree tree, Void none) {
        holds(2, tree, "no class without a name", tree.getClassBody() == null);
        holds(12, tree, "made with the object", isMadeWithTheObject());
        return super.visitNewClass(tree, none);
    }

    @Override
    public Void visitNewArray(NewArrayTree tree, Void none) {
        holds(12, tree, "made with the object", isMadeWithTheObject());
        return super.visitNewArray(tree, none);
    }

    private boolean isMadeWithTheObject() {
        for (Tree leaf : getCurrentPath()) {
            if (leaf instanceof MethodTree method) {
                return method.getName().contentEquals("<init>");
            }
        }
        return true;
    }
}

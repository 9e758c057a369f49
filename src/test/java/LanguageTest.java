import com.sun.source.tree.AssertTree;
import com.sun.source.tree.BinaryTree;
import com.sun.source.tree.BlockTree;
import com.sun.source.tree.ClassTree;
import com.sun.source.tree.CompilationUnitTree;
import com.sun.source.tree.DoWhileLoopTree;
import com.sun.source.tree.ExpressionTree;
import com.sun.source.tree.ForLoopTree;
import com.sun.source.tree.LambdaExpressionTree;
import com.sun.source.tree.MemberReferenceTree;
import com.sun.source.tree.MethodInvocationTree;
import com.sun.source.tree.MethodTree;
import com.sun.source.tree.NewArrayTree;
import com.sun.source.tree.NewClassTree;
import com.sun.source.tree.SynchronizedTree;
import com.sun.source.tree.ThrowTree;
import com.sun.source.tree.Tree;
import com.sun.source.tree.TryTree;
import com.sun.source.tree.VariableTree;
import com.sun.source.tree.WhileLoopTree;
import com.sun.source.util.JavacTask;
import com.sun.source.util.TreePath;
import com.sun.source.util.TreePathScanner;
import com.sun.source.util.Trees;
import java.io.IOException;
import java.nio.file.Path;
import java.util.List;
import java.util.Map;
import java.util.Set;
import java.util.TreeMap;
import java.util.TreeSet;
import javax.lang.model.element.Element;
import javax.lang.model.element.ElementKind;
import javax.lang.model.element.Modifier;
import javax.lang.model.type.ArrayType;
import javax.lang.model.type.TypeKind;
import javax.lang.model.type.TypeMirror;
import javax.tools.JavaCompiler;
import javax.tools.StandardJavaFileManager;
import javax.tools.ToolProvider;

/** The class keeps to ../shared/LANGUAGE.md, as far as its source tells; each answer is told with the rule's number. */
public final class LanguageTest extends TreePathScanner<Void, Void> {
    private static final Check CHECK = new Check();
    private static final Path SOURCE = Path.of("src", "main", "java", "OneDrum.java");
    private static final int CLASSES_MOST = 12;
    private static final int FIELDS_MOST = 20;
    private static final int PARAMETERS_MOST = 7;
    private static final int LINES_MOST = 60;
    private static final int DEEP_MOST = 8;
    private static final int ENDLESS = 1000;
    /** What of the library the class calls; LANGUAGE.md has more, which may be put in here when it is used. */
    private static final Set<String> LIBRARY = Set.of("java.lang.Math.min", "java.lang.Math.max", "java.lang.Integer.signum",
        "java.lang.Integer.bitCount", "java.lang.System.arraycopy", "java.lang.String.length", "java.lang.String.charAt",
        "java.lang.Object.<init>");
    private static final Set<String> CONSTANTS = Set.of("int", "long", "boolean", "char", "java.lang.String");

    private final Trees trees;
    private final CompilationUnitTree unit;
    private final Set<String> face = new TreeSet<>();
    private final Map<String, Set<String>> calls = new TreeMap<>();
    private int classes = 0;

    private LanguageTest(Trees trees, CompilationUnitTree unit) {
        this.trees = trees;
        this.unit = unit;
    }

    public static void main(String[] args) throws IOException {
        JavaCompiler compiler = ToolProvider.getSystemJavaCompiler();
        try (StandardJavaFileManager files = compiler.getStandardFileManager(null, null, null)) {
            JavacTask task = (JavacTask) compiler.getTask(null, files, null, List.of("-proc:none"), null,
                files.getJavaFileObjects(SOURCE));
            CompilationUnitTree unit = task.parse().iterator().next();
            task.analyze();
            new LanguageTest(Trees.instance(task), unit).look();
        }
        CHECK.finish();
    }

    private void look() {
        rule("1: no package", unit.getPackage() == null);
        rule("1: one class", unit.getTypeDecls().size() == 1);
        rule("4: no import", unit.getImports().isEmpty());
        for (Tree member : ((ClassTree) unit.getTypeDecls().get(0)).getMembers()) {
            if (member instanceof MethodTree method && method.getModifiers().getFlags().contains(Modifier.PUBLIC)) {
                face.add(method.getName().toString());
            }
        }
        scan(unit, null);
        rule("11: " + classes + " classes", classes <= CLASSES_MOST);
        for (String method : calls.keySet()) {
            int deep = deepness(method, new TreeSet<>());
            rule("8: " + method + " is in no recursion", deep < ENDLESS);
            rule("11: " + method + " goes " + deep + " deep", deep <= DEEP_MOST);
        }
    }

    private void rule(String what, boolean holds) {
        CHECK.due("rule " + what, holds, true);
    }

    private String where(Tree tree) {
        long place = trees.getSourcePositions().getStartPosition(unit, tree);
        return " at line " + unit.getLineMap().getLineNumber(place);
    }

    private void never(String what, Tree tree) {
        rule(what + where(tree), false);
    }

    private Element elementOf(Tree tree) {
        return trees.getElement(new TreePath(getCurrentPath(), tree));
    }

    private static String nameOf(Element method) {
        return method.getEnclosingElement() + "." + method.getSimpleName();
    }

    private static boolean isOwn(Element element) {
        return element.toString().startsWith("OneDrum") || nameOf(element).startsWith("OneDrum");
    }

    /** How deep the calls go that a method begins, itself among them; beyond all bounds if one of them calls one that is open. */
    private int deepness(String method, Set<String> open) {
        if (!open.add(method)) {
            return ENDLESS;
        }
        int most = 0;
        for (String called : calls.getOrDefault(method, Set.of())) {
            most = Math.max(most, deepness(called, open));
        }
        open.remove(method);
        return most + 1;
    }

    @Override
    public Void visitClass(ClassTree tree, Void none) {
        classes++;
        boolean isNested = getCurrentPath().getParentPath().getLeaf() instanceof ClassTree;
        Set<Modifier> flags = tree.getModifiers().getFlags();
        rule("2: a class in a class is static" + where(tree), !isNested || flags.contains(Modifier.STATIC));
        rule("1, 2: no local or anonymous class" + where(tree), isNested || tree.getSimpleName().contentEquals("OneDrum"));
        rule("1: what is in it is not public" + where(tree), !isNested || !flags.contains(Modifier.PUBLIC));
        int fields = 0;
        for (Tree member : tree.getMembers()) {
            if (member instanceof VariableTree field) {
                fields += field.getModifiers().getFlags().contains(Modifier.STATIC) ? 0 : 1;
            }
            if (member instanceof BlockTree block && block.isStatic()) {
                never("5: a static block", block);
            }
        }
        rule("11: " + fields + " fields" + where(tree), fields <= FIELDS_MOST);
        return super.visitClass(tree, none);
    }

    @Override
    public Void visitMethod(MethodTree tree, Void none) {
        String name = tree.getName().toString();
        boolean isFace = tree.getModifiers().getFlags().contains(Modifier.PUBLIC);
        rule("1: " + name + " is the name of a public one", isFace || name.equals("<init>") || !face.contains(name));
        rule("6: no " + name + " of its own", !Set.of("equals", "hashCode", "toString").contains(name));
        rule("11: parameters of " + name, tree.getParameters().size() <= PARAMETERS_MOST);
        long from = trees.getSourcePositions().getStartPosition(unit, tree);
        long to = trees.getSourcePositions().getEndPosition(unit, tree);
        if (to > from) {
            long lines = unit.getLineMap().getLineNumber(to) - unit.getLineMap().getLineNumber(from) + 1;
            rule("11: " + name + " has " + lines + " lines", lines <= LINES_MOST);
        }
        calls.computeIfAbsent(nameOf(trees.getElement(getCurrentPath())), n -> new TreeSet<>());
        return super.visitMethod(tree, none);
    }

    /** The method around what is looked at now; null in a field's first value. */
    private TreePath methodAround() {
        TreePath at = getCurrentPath();
        while (at != null && !(at.getLeaf() instanceof MethodTree)) {
            at = at.getLeaf() instanceof ClassTree ? null : at.getParentPath();
        }
        return at;
    }

    @Override
    public Void visitMethodInvocation(MethodInvocationTree tree, Void none) {
        Element called = elementOf(tree.getMethodSelect());
        if (isOwn(called.getEnclosingElement())) {
            TreePath around = methodAround();
            rule("12: a field's first value calls nothing" + where(tree), around != null);
            if (around != null) {
                calls.computeIfAbsent(nameOf(trees.getElement(around)), n -> new TreeSet<>()).add(nameOf(called));
            }
        } else {
            rule("4: " + nameOf(called) + where(tree), LIBRARY.contains(nameOf(called)));
        }
        return super.visitMethodInvocation(tree, none);
    }

    @Override
    public Void visitVariable(VariableTree tree, Void none) {
        Element variable = trees.getElement(getCurrentPath());
        TypeMirror type = variable.asType();
        rule("3: the type " + type + where(tree), isOfTheLanguage(type));
        if (variable.getKind() == ElementKind.FIELD) {
            Set<Modifier> flags = tree.getModifiers().getFlags();
            boolean isStatic = flags.contains(Modifier.STATIC);
            rule("5: " + tree.getName() + " is a constant", !isStatic || flags.contains(Modifier.FINAL)
                && CONSTANTS.contains(type.toString()));
            boolean isOuter = variable.getEnclosingElement().toString().equals("OneDrum");
            boolean isNone = tree.getName().contentEquals("NONE");
            rule("1: " + tree.getName() + " is private", !isOuter || isNone || flags.contains(Modifier.PRIVATE));
        }
        return super.visitVariable(tree, none);
    }

    private static boolean isOfTheLanguage(TypeMirror type) {
        if (type instanceof ArrayType one) {
            TypeMirror inner = one.getComponentType();
            boolean isOfTwo = inner instanceof ArrayType two && two.getComponentType().getKind().isPrimitive();
            return isOfTwo || inner.getKind().isPrimitive() || inner.toString().startsWith("OneDrum.");
        }
        return type.getKind().isPrimitive() || type.toString().equals("java.lang.String") || type.toString().startsWith("OneDrum.");
    }

    private void madeInConstructors(Tree tree) {
        TreePath around = methodAround();
        boolean inConstructor = around == null || ((MethodTree) around.getLeaf()).getName().contentEquals("<init>");
        rule("12: all is made in constructors" + where(tree), inConstructor);
    }

    @Override
    public Void visitNewClass(NewClassTree tree, Void none) {
        madeInConstructors(tree);
        rule("2: no class without a name" + where(tree), tree.getClassBody() == null);
        rule("3: of its own classes" + where(tree), isOwn(elementOf(tree.getIdentifier())));
        return super.visitNewClass(tree, none);
    }

    @Override
    public Void visitNewArray(NewArrayTree tree, Void none) {
        madeInConstructors(tree);
        return super.visitNewArray(tree, none);
    }

    @Override
    public Void visitBinary(BinaryTree tree, Void none) {
        for (ExpressionTree side : List.of(tree.getLeftOperand(), tree.getRightOperand())) {
            TypeMirror type = trees.getTypeMirror(new TreePath(getCurrentPath(), side));
            boolean isText = type.getKind() == TypeKind.DECLARED && type.toString().startsWith("java.lang.");
            rule("6, 10: " + type + " is neither joined nor compared" + where(tree), !isText);
        }
        return super.visitBinary(tree, none);
    }

    private void loop(Tree tree, ExpressionTree condition) {
        String bound = condition == null ? "true" : condition.toString().replaceAll("[()]", "");
        rule("9: the loop has an end" + where(tree), !bound.equals("true"));
    }

    @Override
    public Void visitWhileLoop(WhileLoopTree tree, Void none) {
        loop(tree, tree.getCondition());
        return super.visitWhileLoop(tree, none);
    }

    @Override
    public Void visitDoWhileLoop(DoWhileLoopTree tree, Void none) {
        loop(tree, tree.getCondition());
        return super.visitDoWhileLoop(tree, none);
    }

    @Override
    public Void visitForLoop(ForLoopTree tree, Void none) {
        loop(tree, tree.getCondition());
        return super.visitForLoop(tree, none);
    }

    @Override
    public Void visitLambdaExpression(LambdaExpressionTree tree, Void none) {
        never("2: a lambda", tree);
        return super.visitLambdaExpression(tree, none);
    }

    @Override
    public Void visitMemberReference(MemberReferenceTree tree, Void none) {
        never("2: a method reference", tree);
        return super.visitMemberReference(tree, none);
    }

    @Override
    public Void visitThrow(ThrowTree tree, Void none) {
        never("6: throw", tree);
        return super.visitThrow(tree, none);
    }

    @Override
    public Void visitTry(TryTree tree, Void none) {
        never("6: try", tree);
        return super.visitTry(tree, none);
    }

    @Override
    public Void visitSynchronized(SynchronizedTree tree, Void none) {
        never("6: synchronized", tree);
        return super.visitSynchronized(tree, none);
    }

    @Override
    public Void visitAssert(AssertTree tree, Void none) {
        never("6: assert", tree);
        return super.visitAssert(tree, none);
    }
}

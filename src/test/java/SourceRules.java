import com.sun.source.tree.AssertTree;
import com.sun.source.tree.BinaryTree;
import com.sun.source.tree.BlockTree;
import com.sun.source.tree.ClassTree;
import com.sun.source.tree.CompilationUnitTree;
import com.sun.source.tree.DoWhileLoopTree;
import com.sun.source.tree.ExpressionTree;
import com.sun.source.tree.ForLoopTree;
import com.sun.source.tree.ImportTree;
import com.sun.source.tree.LambdaExpressionTree;
import com.sun.source.tree.LiteralTree;
import com.sun.source.tree.MemberReferenceTree;
import com.sun.source.tree.MethodInvocationTree;
import com.sun.source.tree.MethodTree;
import com.sun.source.tree.NewClassTree;
import com.sun.source.tree.SynchronizedTree;
import com.sun.source.tree.ThrowTree;
import com.sun.source.tree.Tree;
import com.sun.source.tree.TryTree;
import com.sun.source.tree.TypeCastTree;
import com.sun.source.tree.VariableTree;
import com.sun.source.tree.WhileLoopTree;
import com.sun.source.util.JavacTask;
import com.sun.source.util.TreePath;
import com.sun.source.util.TreePathScanner;
import com.sun.source.util.Trees;
import java.io.IOException;
import java.nio.file.Path;
import java.util.ArrayList;
import java.util.HashSet;
import java.util.LinkedHashMap;
import java.util.LinkedHashSet;
import java.util.List;
import java.util.Map;
import java.util.Set;
import javax.lang.model.element.Element;
import javax.lang.model.element.Modifier;
import javax.lang.model.element.TypeElement;
import javax.lang.model.element.VariableElement;
import javax.lang.model.type.ArrayType;
import javax.lang.model.type.TypeKind;
import javax.lang.model.type.TypeMirror;
import javax.tools.JavaCompiler;
import javax.tools.StandardJavaFileManager;
import javax.tools.ToolProvider;

/** Those rules of LANGUAGE.md that can be read off the source, by the compiler's own trees. */
final class SourceRules extends TreePathScanner<Void, Void> {
    private static final int MOST_PARAMETERS = 7;
    private static final int MOST_LINES = 60;
    private static final int DEEPEST = 8;
    private static final int MOST_CLASSES = 12;
    private static final int MOST_FIELDS = 20;
    private static final Set<String> IMPORTS = Set.of(
        "java.util.ArrayList", "java.util.List", "java.util.Arrays", "java.util.Iterator");
    /** Those of the library that the class may want; the rest of rule 4 can be added when it does. */
    private static final Set<String> LIBRARY = Set.of(
        "java.lang.Math.abs", "java.lang.Math.max", "java.lang.Math.min", "java.lang.Integer.bitCount",
        "java.lang.System.arraycopy", "java.util.Arrays.fill", "java.util.Arrays.copyOf", "java.util.Arrays.copyOfRange",
        "java.lang.Object.<init>");

    private final CompilationUnitTree unit;
    private final Trees trees;
    private final List<String> broken = new ArrayList<>();
    private final Map<String, Set<String>> calls = new LinkedHashMap<>();
    /** Divisors that the method looks at, by the method's name and the divisor. */
    private final Set<String> lookedAt = new HashSet<>();
    private final List<String> divisions = new ArrayList<>();
    private int classes = 0;

    private SourceRules(CompilationUnitTree unit, Trees trees) {
        this.unit = unit;
        this.trees = trees;
    }

    static List<String> brokenIn(Path source) throws IOException {
        JavaCompiler compiler = ToolProvider.getSystemJavaCompiler();
        try (StandardJavaFileManager files = compiler.getStandardFileManager(null, null, null)) {
            JavacTask task = (JavacTask) compiler.getTask(
                null, files, null, List.of("-proc:none"), null, files.getJavaFileObjects(source));
            CompilationUnitTree unit = task.parse().iterator().next();
            task.analyze();
            SourceRules rules = new SourceRules(unit, Trees.instance(task));
            rules.scan(unit, null);
            rules.lookAtDivisions();
            rules.lookAtCalls();
            return rules.broken;
        }
    }

    private void must(boolean holds, String rule) {
        if (!holds) {
            broken.add(rule);
        }
    }

    private Element elementOf(Tree tree) {
        return trees.getElement(TreePath.getPath(unit, tree));
    }

    private long linesOf(Tree tree) {
        long start = trees.getSourcePositions().getStartPosition(unit, tree);
        long end = trees.getSourcePositions().getEndPosition(unit, tree);
        return unit.getLineMap().getLineNumber(end) - unit.getLineMap().getLineNumber(start) + 1;
    }

    /** The method in which the scan is; outside of one, the constructor, which runs initialisers. */
    private String here() {
        Element place = null;
        for (TreePath path = getCurrentPath(); path != null; path = path.getParentPath()) {
            if (path.getLeaf() instanceof MethodTree) {
                return nameOf(trees.getElement(path));
            }
            if (path.getLeaf() instanceof ClassTree && place == null) {
                place = trees.getElement(path);
            }
        }
        return (place == null ? "" : place.getSimpleName()) + ".<init>";
    }

    private static String nameOf(Element method) {
        return method.getEnclosingElement().getSimpleName() + "." + method.getSimpleName();
    }

    private boolean isOwn(Element element) {
        for (Element e = element; e != null; e = e.getEnclosingElement()) {
            if (e instanceof TypeElement && trees.getPath(e) != null) {
                return true;
            }
        }
        return false;
    }

    private void called(Element method) {
        if (method == null) {
            return;
        }
        if (isOwn(method)) {
            calls.computeIfAbsent(here(), name -> new LinkedHashSet<>()).add(nameOf(method));
        } else {
            String name = method.getEnclosingElement() + "." + method.getSimpleName();
            must(LIBRARY.contains(name), "rule 4: " + name + " in " + here());
        }
    }

    @Override
    public Void visitImport(ImportTree tree, Void none) {
        must(IMPORTS.contains(tree.getQualifiedIdentifier().toString()), "rule 4: import " + tree.getQualifiedIdentifier());
        return super.visitImport(tree, none);
    }

    @Override
    public Void visitClass(ClassTree tree, Void none) {
        classes++;
        must(classes <= MOST_CLASSES, "rule 11: more than twelve classes");
        Tree around = getCurrentPath().getParentPath().getLeaf();
        boolean outermost = around instanceof CompilationUnitTree;
        boolean isClass = tree.getKind() == Tree.Kind.CLASS;
        must(outermost || !isClass || tree.getModifiers().getFlags().contains(Modifier.STATIC),
            "rule 2: " + tree.getSimpleName() + " is not static");
        must(outermost || around instanceof ClassTree, "rule 2: " + tree.getSimpleName() + " is local or anonymous");
        int fields = 0;
        for (Tree member : tree.getMembers()) {
            if (member instanceof VariableTree field && !field.getModifiers().getFlags().contains(Modifier.STATIC)) {
                fields++;
            }
            must(!(member instanceof BlockTree), "rule 5: a static block or another initialiser");
        }
        must(fields <= MOST_FIELDS, "rule 11: " + tree.getSimpleName() + " has " + fields + " fields");
        return super.visitClass(tree, none);
    }

    @Override
    public Void visitVariable(VariableTree tree, Void none) {
        Set<Modifier> flags = tree.getModifiers().getFlags();
        must(!flags.contains(Modifier.STATIC) || flags.contains(Modifier.FINAL), "rule 5: " + tree.getName());
        Element element = elementOf(tree);
        if (element instanceof VariableElement variable) {
            lookAtType(variable.asType());
        }
        return super.visitVariable(tree, none);
    }

    /** Arrays of two dimensions are of numbers alone, and there are none of three. */
    private void lookAtType(TypeMirror type) {
        must(type.getKind() != TypeKind.ARRAY || !(((ArrayType) type).getComponentType() instanceof ArrayType inner)
            || inner.getComponentType().getKind().isPrimitive(), "rule 3: " + shortName(type));
    }

    private static String shortName(TypeMirror type) {
        return type.toString().replaceAll("[a-z]+\\.", "");
    }

    @Override
    public Void visitMethod(MethodTree tree, Void none) {
        int parameters = tree.getParameters().size();
        must(parameters <= MOST_PARAMETERS, "rule 11: " + tree.getName() + " takes " + parameters);
        must(linesOf(tree) <= MOST_LINES, "rule 11: " + tree.getName() + " has " + linesOf(tree) + " lines");
        must(tree.getThrows().isEmpty(), "rule 6: throws of " + tree.getName());
        calls.computeIfAbsent(here(), name -> new LinkedHashSet<>());
        return super.visitMethod(tree, none);
    }

    @Override
    public Void visitMethodInvocation(MethodInvocationTree tree, Void none) {
        Element method = elementOf(tree);
        // The compiler writes the call of the constructor above; it is not in the source.
        if (!"super()".equals(tree.toString())) {
            called(method);
        }
        return super.visitMethodInvocation(tree, none);
    }

    @Override
    public Void visitNewClass(NewClassTree tree, Void none) {
        must(tree.getClassBody() == null, "rule 2: an anonymous class");
        called(elementOf(tree));
        return super.visitNewClass(tree, none);
    }

    @Override
    public Void visitLambdaExpression(LambdaExpressionTree tree, Void none) {
        must(false, "rule 2: a lambda in " + here());
        return super.visitLambdaExpression(tree, none);
    }

    @Override
    public Void visitMemberReference(MemberReferenceTree tree, Void none) {
        must(false, "rule 2: a method reference in " + here());
        return super.visitMemberReference(tree, none);
    }

    @Override
    public Void visitThrow(ThrowTree tree, Void none) {
        must(false, "rule 6: throw in " + here());
        return super.visitThrow(tree, none);
    }

    @Override
    public Void visitTry(TryTree tree, Void none) {
        must(false, "rule 6: try in " + here());
        return super.visitTry(tree, none);
    }

    @Override
    public Void visitSynchronized(SynchronizedTree tree, Void none) {
        must(false, "rule 6: synchronized in " + here());
        return super.visitSynchronized(tree, none);
    }

    @Override
    public Void visitAssert(AssertTree tree, Void none) {
        must(false, "rule 6: assert in " + here());
        return super.visitAssert(tree, none);
    }

    @Override
    public Void visitTypeCast(TypeCastTree tree, Void none) {
        must(tree.getType().getKind() == Tree.Kind.PRIMITIVE_TYPE, "rule 6: a cast to " + tree.getType() + " in " + here());
        return super.visitTypeCast(tree, none);
    }

    @Override
    public Void visitForLoop(ForLoopTree tree, Void none) {
        must(tree.getCondition() != null, "rule 9: for without an end in " + here());
        return super.visitForLoop(tree, none);
    }

    @Override
    public Void visitWhileLoop(WhileLoopTree tree, Void none) {
        must(!tree.getCondition().toString().contains("true"), "rule 9: while without an end in " + here());
        return super.visitWhileLoop(tree, none);
    }

    @Override
    public Void visitDoWhileLoop(DoWhileLoopTree tree, Void none) {
        must(!tree.getCondition().toString().contains("true"), "rule 9: while without an end in " + here());
        return super.visitDoWhileLoop(tree, none);
    }

    @Override
    public Void visitBinary(BinaryTree tree, Void none) {
        ExpressionTree divisor = tree.getRightOperand();
        switch (tree.getKind()) {
            case DIVIDE, REMAINDER -> {
                if (!isConstant(divisor)) {
                    divisions.add(here() + "|" + divisor + "|" + tree);
                }
            }
            case EQUAL_TO, NOT_EQUAL_TO, LESS_THAN, LESS_THAN_EQUAL, GREATER_THAN, GREATER_THAN_EQUAL ->
                lookedAt.add(here() + "|" + tree.getLeftOperand());
            default -> { }
        }
        return super.visitBinary(tree, none);
    }

    private boolean isConstant(ExpressionTree tree) {
        if (tree instanceof LiteralTree) {
            return true;
        }
        return elementOf(tree) instanceof VariableElement variable && variable.getConstantValue() != null;
    }

    private void lookAtDivisions() {
        for (String division : divisions) {
            String[] parts = division.split("\\|");
            must(lookedAt.contains(parts[0] + "|" + parts[1]), "rule 7: " + parts[2] + " in " + parts[0]);
        }
    }

    private void lookAtCalls() {
        for (String method : calls.keySet()) {
            int deep = depthOf(method, new ArrayList<>());
            must(deep <= DEEPEST, "rule 11: " + method.substring(method.indexOf('.') + 1) + " goes " + deep + " deep");
        }
    }

    private int depthOf(String method, List<String> open) {
        if (open.contains(method)) {
            String rule = "rule 8: " + method.substring(method.indexOf('.') + 1) + " calls itself";
            must(broken.contains(rule), rule);
            return 0;
        }
        open.add(method);
        int deepest = 0;
        for (String next : calls.getOrDefault(method, Set.of())) {
            deepest = Math.max(deepest, depthOf(next, open));
        }
        open.remove(method);
        return deepest + 1;
    }
}

import com.sun.source.tree.AssertTree;
import com.sun.source.tree.BinaryTree;
import com.sun.source.tree.ClassTree;
import com.sun.source.tree.CompilationUnitTree;
import com.sun.source.tree.CompoundAssignmentTree;
import com.sun.source.tree.ExpressionTree;
import com.sun.source.tree.ForLoopTree;
import com.sun.source.tree.ImportTree;
import com.sun.source.tree.LambdaExpressionTree;
import com.sun.source.tree.LiteralTree;
import com.sun.source.tree.MemberReferenceTree;
import com.sun.source.tree.MethodInvocationTree;
import com.sun.source.tree.MethodTree;
import com.sun.source.tree.NewClassTree;
import com.sun.source.tree.SynchronizedTree;
import com.sun.source.tree.ThrowTree;
import com.sun.source.tree.Tree;
import com.sun.source.tree.TryTree;
import com.sun.source.tree.VariableTree;
import com.sun.source.tree.WhileLoopTree;
import com.sun.source.util.JavacTask;
import com.sun.source.util.SourcePositions;
import com.sun.source.util.TreePathScanner;
import com.sun.source.util.Trees;
import java.io.IOException;
import java.nio.file.Path;
import java.util.HashMap;
import java.util.List;
import java.util.Map;
import java.util.Set;
import java.util.TreeMap;
import java.util.TreeSet;
import javax.lang.model.element.Element;
import javax.lang.model.element.Modifier;
import javax.lang.model.type.TypeMirror;
import javax.tools.JavaCompiler;
import javax.tools.StandardJavaFileManager;
import javax.tools.ToolProvider;

/** The rules of LANGUAGE.md that can be read from the source, as the compiler understands it. */
public final class LanguageTest extends TreePathScanner<Void, Void> {
    private static final Set<String> LIBRARY = Set.of(
            "java.lang.Math.abs", "java.lang.Math.min", "java.lang.Math.max", "java.lang.Math.floorMod",
            "java.lang.Math.floorDiv", "java.lang.Integer.bitCount", "java.lang.System.arraycopy", "java.lang.Object.<init>");
    private static final Set<String> TYPES = Set.of("int", "long", "short", "byte", "char", "boolean", "double", "float",
            "int[]", "long[]", "short[]", "byte[]", "char[]", "boolean[]", "double[]", "float[]");
    private static final int MOST_LINES = 60;
    private static final int MOST_PARAMETERS = 7;
    private static final int MOST_CALLS = 8;
    private static final int MOST_CLASSES = 12;
    private static final int MOST_FIELDS = 20;

    private final Trees trees;
    private final SourcePositions positions;
    private final CompilationUnitTree unit;
    private final Map<String, Set<String>> calls = new TreeMap<>();
    private final Map<String, Integer> fields = new HashMap<>();
    private final Set<String> face = new TreeSet<>();
    private String method = "";
    private int classes = 0;

    private LanguageTest(JavacTask task, CompilationUnitTree unit) {
        this.trees = Trees.instance(task);
        this.positions = trees.getSourcePositions();
        this.unit = unit;
    }

    public static void main(String[] args) throws IOException {
        JavaCompiler compiler = ToolProvider.getSystemJavaCompiler();
        StandardJavaFileManager files = compiler.getStandardFileManager(null, null, null);
        Path source = Path.of(args.length > 0 ? args[0] : "src/main/java/StampDater.java");
        JavacTask task = (JavacTask) compiler.getTask(null, files, null, List.of("-proc:none"), null,
                files.getJavaFileObjects(source));
        CompilationUnitTree unit = task.parse().iterator().next();
        task.analyze();
        LanguageTest test = new LanguageTest(task, unit);
        test.scan(unit, null);
        test.sums();
        Check.end("LanguageTest");
    }

    private void refuse(String what, Tree tree) {
        long line = unit.getLineMap().getLineNumber(positions.getStartPosition(unit, tree));
        Check.same("line " + line, what, "nothing that the rules leave out");
    }

    private void refuseIf(boolean isOutside, String what, Tree tree) {
        if (isOutside) {
            refuse(what, tree);
        }
    }

    private Element elementHere() {
        return trees.getElement(getCurrentPath());
    }

    private static String nameOf(Element element) {
        return element.getEnclosingElement() + "." + element.getSimpleName();
    }

    private static boolean isOwn(String name) {
        return name.equals("StampDater") || name.startsWith("StampDater.");
    }

    // ---- rules 1 and 11: classes, methods, fields

    @Override
    public Void visitClass(ClassTree tree, Void none) {
        classes++;
        Element element = elementHere();
        boolean isInside = element.getEnclosingElement().getKind().isClass();
        Set<Modifier> modifiers = element.getModifiers();
        refuseIf(isInside && (modifiers.contains(Modifier.PUBLIC) || modifiers.contains(Modifier.PROTECTED)),
                "an open class inside", tree);
        refuseIf(isInside && !modifiers.contains(Modifier.STATIC), "a class inside that is not static", tree);
        for (Tree member : tree.getMembers()) {
            if (member instanceof MethodTree && !isInside) {
                addToFace((MethodTree) member);
            }
            refuseIf(member.getKind() == Tree.Kind.BLOCK, "an initialiser block", member);
        }
        return super.visitClass(tree, none);
    }

    private void addToFace(MethodTree tree) {
        if (tree.getReturnType() != null && tree.getModifiers().getFlags().contains(Modifier.PUBLIC)) {
            face.add(tree.getName().toString());
        }
    }

    @Override
    public Void visitMethod(MethodTree tree, Void none) {
        Element element = elementHere();
        method = nameOf(element);
        calls.putIfAbsent(method, new TreeSet<>());
        long first = unit.getLineMap().getLineNumber(positions.getStartPosition(unit, tree));
        long last = unit.getLineMap().getLineNumber(positions.getEndPosition(unit, tree));
        refuseIf(last - first + 1 > MOST_LINES, "a long method", tree);
        refuseIf(tree.getParameters().size() > MOST_PARAMETERS, "a method of many parameters", tree);
        boolean isOfFace = element.getModifiers().contains(Modifier.PUBLIC);
        refuseIf(!isOfFace && face.contains(tree.getName().toString()), "a name of the face", tree);
        refuseIf(Set.of("equals", "hashCode", "toString").contains(tree.getName().toString()), "a method of Object", tree);
        refuseIf(tree.getModifiers().getFlags().contains(Modifier.SYNCHRONIZED), "synchronized", tree);
        return super.visitMethod(tree, none);
    }

    @Override
    public Void visitVariable(VariableTree tree, Void none) {
        Element element = elementHere();
        Set<Modifier> modifiers = element.getModifiers();
        boolean isStatic = modifiers.contains(Modifier.STATIC);
        if (element.getKind().isField() && !isStatic) {
            fields.merge(element.getEnclosingElement().toString(), 1, Integer::sum);
        }
        refuseIf(isStatic && !modifiers.contains(Modifier.FINAL), "a static variable", tree);
        String type = element.asType().toString();
        String plain = type.endsWith("[]") ? type.substring(0, type.length() - 2) : type;
        refuseIf(!TYPES.contains(type) && !isOwn(plain), "the type " + type, tree);
        return super.visitVariable(tree, none);
    }

    private void sums() {
        Check.due("too many classes", classes <= MOST_CLASSES ? 0 : classes, 0);
        for (String name : fields.keySet()) {
            Check.due("too many fields of " + name, fields.get(name) <= MOST_FIELDS ? 0 : fields.get(name), 0);
        }
        Map<String, Integer> depths = new HashMap<>();
        for (String name : calls.keySet()) {
            int depth = depth(name, depths, 0);
            Check.due(name + " calls too deep", depth <= MOST_CALLS ? 0 : depth, 0);
        }
    }

    /** How deep calls go from a method on, itself and the library's counted. */
    private int depth(String name, Map<String, Integer> depths, int open) {
        if (open > MOST_CALLS) {
            return 1;
        }
        Integer known = depths.get(name);
        if (known != null) {
            return known;
        }
        int deepest = 0;
        for (String called : calls.getOrDefault(name, Set.of())) {
            deepest = Math.max(deepest, depth(called, depths, open + 1));
        }
        if (open == 0) {
            depths.put(name, deepest + 1);
        }
        return deepest + 1;
    }

    // ---- rules 3 and 4: what is used

    @Override
    public Void visitImport(ImportTree tree, Void none) {
        refuse("an import that the program has no need of", tree);
        return super.visitImport(tree, none);
    }

    @Override
    public Void visitMethodInvocation(MethodInvocationTree tree, Void none) {
        Element element = elementHere();
        String name = nameOf(element);
        refuseIf(!isOwn(element.getEnclosingElement().toString()) && !LIBRARY.contains(name), "the call " + name, tree);
        if (!name.endsWith("<init>") && !method.isEmpty()) {
            calls.get(method).add(name);
        }
        return super.visitMethodInvocation(tree, none);
    }

    @Override
    public Void visitNewClass(NewClassTree tree, Void none) {
        TypeMirror type = trees.getTypeMirror(getCurrentPath());
        refuseIf(!isOwn(type.toString()) || tree.getClassBody() != null, "a new " + type, tree);
        if (!method.isEmpty()) {
            calls.get(method).add(type + ".<init>");
        }
        return super.visitNewClass(tree, none);
    }

    @Override
    public Void visitBinary(BinaryTree tree, Void none) {
        refuseIf(trees.getTypeMirror(getCurrentPath()).toString().equals("java.lang.String"), "texts joined by +", tree);
        return super.visitBinary(tree, none);
    }

    @Override
    public Void visitCompoundAssignment(CompoundAssignmentTree tree, Void none) {
        refuseIf(trees.getTypeMirror(getCurrentPath()).toString().equals("java.lang.String"), "texts joined by +=", tree);
        return super.visitCompoundAssignment(tree, none);
    }

    // ---- rules 2, 6, 9: what is not used

    @Override
    public Void visitLambdaExpression(LambdaExpressionTree tree, Void none) {
        refuse("a lambda", tree);
        return super.visitLambdaExpression(tree, none);
    }

    @Override
    public Void visitMemberReference(MemberReferenceTree tree, Void none) {
        refuse("a method reference", tree);
        return super.visitMemberReference(tree, none);
    }

    @Override
    public Void visitSynchronized(SynchronizedTree tree, Void none) {
        refuse("synchronized", tree);
        return super.visitSynchronized(tree, none);
    }

    @Override
    public Void visitAssert(AssertTree tree, Void none) {
        refuse("assert", tree);
        return super.visitAssert(tree, none);
    }

    @Override
    public Void visitTry(TryTree tree, Void none) {
        refuse("try, though no call of the document throws", tree);
        return super.visitTry(tree, none);
    }

    @Override
    public Void visitThrow(ThrowTree tree, Void none) {
        refuse("throw, though no call of the document throws", tree);
        return super.visitThrow(tree, none);
    }

    @Override
    public Void visitForLoop(ForLoopTree tree, Void none) {
        refuseIf(hasNoEnd(tree.getCondition()), "a loop without an end", tree);
        return super.visitForLoop(tree, none);
    }

    @Override
    public Void visitWhileLoop(WhileLoopTree tree, Void none) {
        refuseIf(hasNoEnd(tree.getCondition()), "a loop without an end", tree);
        return super.visitWhileLoop(tree, none);
    }

    private static boolean hasNoEnd(ExpressionTree condition) {
        String text = condition == null ? "true" : condition.toString().replace("(", "").replace(")", "");
        return text.equals("true");
    }

    @Override
    public Void visitLiteral(LiteralTree tree, Void none) {
        if (tree.getValue() instanceof String || tree.getValue() instanceof Character) {
            String text = String.valueOf(tree.getValue());
            refuseIf(text.chars().anyMatch(sign -> sign < 1 || sign > 127), "a sign that is not 1 to 127", tree);
        }
        return super.visitLiteral(tree, none);
    }
}

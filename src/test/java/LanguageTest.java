import com.sun.source.tree.BinaryTree;
import com.sun.source.tree.ClassTree;
import com.sun.source.tree.CompilationUnitTree;
import com.sun.source.tree.ImportTree;
import com.sun.source.tree.LiteralTree;
import com.sun.source.tree.MemberSelectTree;
import com.sun.source.tree.MethodInvocationTree;
import com.sun.source.tree.MethodTree;
import com.sun.source.tree.NewArrayTree;
import com.sun.source.tree.NewClassTree;
import com.sun.source.tree.ThrowTree;
import com.sun.source.tree.Tree;
import com.sun.source.tree.VariableTree;
import com.sun.source.tree.WhileLoopTree;
import com.sun.source.util.JavacTask;
import com.sun.source.util.SourcePositions;
import com.sun.source.util.TreeScanner;
import com.sun.source.util.Trees;
import java.io.IOException;
import java.nio.file.Path;
import java.util.HashMap;
import java.util.HashSet;
import java.util.List;
import java.util.Map;
import java.util.Set;
import javax.lang.model.element.Modifier;
import javax.tools.JavaCompiler;
import javax.tools.StandardJavaFileManager;
import javax.tools.ToolProvider;

/** The rules of LANGUAGE.md that can be seen in the program's text; the others are told in NOTES.md. */
public final class LanguageTest extends TreeScanner<Void, Void> {
    private static final Set<String> LIBRARY = Set.of("Math.max", "Math.min", "Integer.bitCount",
        "Integer.numberOfTrailingZeros", "System.arraycopy", "KEY_TEXTS.length", "KEY_TEXTS.charAt");
    private static final Set<String> LIBRARY_HEADS = Set.of("Math", "Integer", "Long", "System", "Arrays", "KEY_TEXTS");
    /** Some of these the rules allow in places, but the program needs none. */
    private static final Set<Tree.Kind> NEVER = Set.of(Tree.Kind.LAMBDA_EXPRESSION, Tree.Kind.MEMBER_REFERENCE,
        Tree.Kind.TRY, Tree.Kind.SYNCHRONIZED, Tree.Kind.ASSERT, Tree.Kind.INSTANCE_OF, Tree.Kind.SWITCH_EXPRESSION);
    private static final int MOST_PARAMETERS = 7;
    private static final int MOST_LINES = 60;
    private static final int MOST_CLASSES = 12;
    private static final int MOST_FIELDS = 20;
    private static final int MOST_OPEN_CALLS = 8;

    private final CompilationUnitTree unit;
    private final SourcePositions positions;
    private final Map<String, Set<String>> callsOf = new HashMap<>();
    private String method = "";
    private String owner = "";
    private int classes;

    private LanguageTest(CompilationUnitTree unit, SourcePositions positions) {
        this.unit = unit;
        this.positions = positions;
    }

    public static void main(String[] args) throws IOException {
        JavaCompiler compiler = ToolProvider.getSystemJavaCompiler();
        StandardJavaFileManager files = compiler.getStandardFileManager(null, null, null);
        JavacTask task = (JavacTask) compiler.getTask(null, files, null, List.of("-proc:none"), null,
            files.getJavaFileObjects(Path.of("src/main/java/SafeSenate.java")));
        CompilationUnitTree unit = task.parse().iterator().next();
        LanguageTest test = new LanguageTest(unit, Trees.instance(task).getSourcePositions());
        test.scan(unit, null);
        Due.is("rule 11: classes", test.classes <= MOST_CLASSES, true);
        for (String name : test.callsOf.keySet()) {
            Due.is("rule 11: calls below " + name, test.depth(name, new HashSet<>()) <= MOST_OPEN_CALLS, true);
        }
        Due.end();
    }

    private long line(Tree tree) {
        return unit.getLineMap().getLineNumber(positions.getStartPosition(unit, tree));
    }

    private long lastLine(Tree tree) {
        return unit.getLineMap().getLineNumber(positions.getEndPosition(unit, tree));
    }

    @Override
    public Void scan(Tree tree, Void none) {
        if (tree != null && NEVER.contains(tree.getKind())) {
            Due.is("rules 2 and 6: " + tree.getKind() + " in line " + line(tree), true, false);
        }
        return super.scan(tree, none);
    }

    /** The calls that stand open at once, where a method that calls itself counts once. */
    private int depth(String name, Set<String> open) {
        int deepest = 0;
        if (open.add(name)) {
            for (String called : callsOf.getOrDefault(name, Set.of())) {
                deepest = Math.max(deepest, open.contains(called) ? 0 : depth(called, open));
            }
            open.remove(name);
        }
        return deepest + 1;
    }

    @Override
    public Void visitImport(ImportTree tree, Void none) {
        Due.is("rule 4: imports", tree.getQualifiedIdentifier().toString().equals("java.util.NoSuchElementException"), true);
        return super.visitImport(tree, none);
    }

    @Override
    public Void visitClass(ClassTree tree, Void none) {
        classes++;
        String outside = owner;
        owner = tree.getSimpleName().toString();
        Due.is("rule 2: " + owner + " is a class", tree.getKind() == Tree.Kind.CLASS, true);
        long fields = tree.getMembers().stream().filter(m -> m instanceof VariableTree v
            && !v.getModifiers().getFlags().contains(Modifier.STATIC)).count();
        Due.is("rule 11: fields of " + owner, fields <= MOST_FIELDS, true);
        for (Tree member : tree.getMembers()) {
            Due.is("rule 5: block of " + owner, member.getKind() == Tree.Kind.BLOCK, false);
        }
        super.visitClass(tree, none);
        owner = outside;
        return null;
    }

    @Override
    public Void visitMethod(MethodTree tree, Void none) {
        String outside = method;
        method = tree.getName().toString();
        callsOf.putIfAbsent(method, new HashSet<>());
        long lines = lastLine(tree) - line(tree) + 1;
        Due.is("rule 11: parameters of " + method, tree.getParameters().size() <= MOST_PARAMETERS, true);
        Due.is("rule 11: lines of " + method, lines <= MOST_LINES, true);
        super.visitMethod(tree, none);
        method = outside;
        return null;
    }

    @Override
    public Void visitVariable(VariableTree tree, Void none) {
        Set<Modifier> flags = tree.getModifiers().getFlags();
        Due.is("rule 5: " + tree.getName(), flags.contains(Modifier.STATIC) && !flags.contains(Modifier.FINAL), false);
        String type = String.valueOf(tree.getType());
        boolean deep = type.contains("[][]") || type.contains("<") || type.contains("...");
        Due.is("rule 3: the type " + type, deep || type.equals("double") || type.equals("float") || type.equals("var"), false);
        return super.visitVariable(tree, none);
    }

    @Override
    public Void visitMethodInvocation(MethodInvocationTree tree, Void none) {
        String called = tree.getMethodSelect().toString();
        String head = called.contains(".") ? called.substring(0, called.indexOf('.')) : "";
        if (LIBRARY_HEADS.contains(head)) {
            Due.is("rule 4: " + called, LIBRARY.contains(called), true);
        } else {
            callsOf.computeIfAbsent(method, m -> new HashSet<>()).add(called.substring(called.lastIndexOf('.') + 1));
        }
        return super.visitMethodInvocation(tree, none);
    }

    @Override
    public Void visitThrow(ThrowTree tree, Void none) {
        Due.is("rule 6: " + tree, tree.getExpression().toString().equals("new NoSuchElementException()"), true);
        Due.is("rule 6: thrown by led alone", method.equals("led"), true);
        return super.visitThrow(tree, none);
    }

    @Override
    public Void visitBinary(BinaryTree tree, Void none) {
        boolean texts = tree.getLeftOperand() instanceof LiteralTree l && l.getValue() instanceof String
            || tree.getRightOperand() instanceof LiteralTree r && r.getValue() instanceof String;
        Due.is("rule 10: texts joined in line " + line(tree), texts, false);
        return super.visitBinary(tree, none);
    }

    @Override
    public Void visitNewClass(NewClassTree tree, Void none) {
        Due.is("rule 2: a class without a name", tree.getClassBody() == null, true);
        Due.is("rule 12: made in " + owner + "." + method, inConstructor() || method.equals("led"), true);
        return super.visitNewClass(tree, none);
    }

    @Override
    public Void visitNewArray(NewArrayTree tree, Void none) {
        Due.is("rule 12: a row made in " + owner + "." + method, inConstructor(), true);
        return super.visitNewArray(tree, none);
    }

    /** A field's initialiser stands in no method. */
    private boolean inConstructor() {
        return method.equals("<init>") || method.isEmpty();
    }

    @Override
    public Void visitWhileLoop(WhileLoopTree tree, Void none) {
        Due.is("rule 9: a bound in line " + line(tree), tree.getCondition().toString().contains("<"), true);
        return super.visitWhileLoop(tree, none);
    }

    @Override
    public Void visitMemberSelect(MemberSelectTree tree, Void none) {
        Due.is("rule 6: " + tree, tree.getIdentifier().contentEquals("hashCode")
            || tree.getIdentifier().contentEquals("toString"), false);
        return super.visitMemberSelect(tree, none);
    }
}

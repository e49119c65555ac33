import com.sun.source.tree.BinaryTree;
import com.sun.source.tree.ClassTree;
import com.sun.source.tree.CompilationUnitTree;
import com.sun.source.tree.LiteralTree;
import com.sun.source.tree.MethodInvocationTree;
import com.sun.source.tree.MethodTree;
import com.sun.source.tree.NewArrayTree;
import com.sun.source.tree.NewClassTree;
import com.sun.source.tree.ThrowTree;
import com.sun.source.tree.Tree;
import com.sun.source.tree.VariableTree;
import com.sun.source.util.JavacTask;
import com.sun.source.util.SourcePositions;
import com.sun.source.util.TreePath;
import com.sun.source.util.TreePathScanner;
import com.sun.source.util.Trees;
import java.io.IOException;
import java.nio.file.Files;
import java.nio.file.Path;
import java.util.ArrayList;
import java.util.EnumSet;
import java.util.HashMap;
import java.util.HashSet;
import java.util.List;
import java.util.Map;
import java.util.Set;
import javax.lang.model.element.Element;
import javax.lang.model.element.ElementKind;
import javax.lang.model.element.Modifier;
import javax.lang.model.element.VariableElement;
import javax.tools.JavaCompiler;
import javax.tools.StandardJavaFileManager;
import javax.tools.ToolProvider;

/**
 * Those rules of LANGUAGE.md that the compiler's tree of the class can tell. They are asked more
 * narrowly than they are written: what the class does not use is not let in.
 */
public final class RulesTest extends TreePathScanner<Void, Void> {
    private static final Check CHECK = new Check();
    private static final Path SOURCE = Path.of("src/main/java/PacketGuard.java");
    private static final int MOST_DEPTH = 8;
    private static final int MOST_LINES = 60;
    private static final int MOST_FIELDS = 20;
    private static final int MOST_CLASSES = 12;
    private static final int MOST_PARAMETERS = 7;

    private static final Set<String> LIBRARY =
            Set.of("java.lang.Math.min", "java.lang.Math.max", "java.lang.Math.floorMod");
    private static final Set<String> EXCEPTIONS = Set.of("java.lang.IllegalStateException",
            "java.lang.IllegalArgumentException", "java.lang.IndexOutOfBoundsException");
    private static final Set<String> CONSTANTS = Set.of("int", "int[]");
    private static final Set<String> FIELDS = Set.of("int", "boolean", "int[]", "byte[]");

    /** Rules 2, 6, 9 and 10: loops that count and plain choices are all that is used. */
    private static final Set<Tree.Kind> BANNED = EnumSet.of(Tree.Kind.LAMBDA_EXPRESSION,
            Tree.Kind.MEMBER_REFERENCE, Tree.Kind.TRY, Tree.Kind.CATCH, Tree.Kind.SYNCHRONIZED,
            Tree.Kind.ASSERT, Tree.Kind.INSTANCE_OF, Tree.Kind.WHILE_LOOP, Tree.Kind.DO_WHILE_LOOP,
            Tree.Kind.IMPORT, Tree.Kind.PACKAGE, Tree.Kind.ANNOTATION, Tree.Kind.ENUM,
            Tree.Kind.RECORD, Tree.Kind.INTERFACE, Tree.Kind.DOUBLE_LITERAL,
            Tree.Kind.FLOAT_LITERAL, Tree.Kind.DIVIDE_ASSIGNMENT, Tree.Kind.REMAINDER_ASSIGNMENT);

    private final Trees trees;
    private final SourcePositions positions;
    private final CompilationUnitTree unit;
    private final Map<Element, Set<Element>> calls = new HashMap<>();
    private int classes;
    private Element method;

    private RulesTest(Trees trees, CompilationUnitTree unit) {
        this.trees = trees;
        this.unit = unit;
        positions = trees.getSourcePositions();
    }

    public static void main(String[] args) throws IOException {
        CHECK.holds("the source is of plain characters", Files.readString(SOURCE).chars()
                .allMatch(c -> c == '\n' || c >= ' ' && c < 127));
        JavaCompiler compiler = ToolProvider.getSystemJavaCompiler();
        try (StandardJavaFileManager files = compiler.getStandardFileManager(null, null, null)) {
            JavacTask task = (JavacTask) compiler.getTask(null, files, null,
                    List.of("--release", "17"), null, files.getJavaFileObjects(SOURCE));
            CompilationUnitTree unit = task.parse().iterator().next();
            task.analyze();
            RulesTest rules = new RulesTest(Trees.instance(task), unit);
            rules.scan(unit, null);
            rules.end();
        }
        CHECK.end("RulesTest");
    }

    private void end() {
        CHECK.holds("rule 11: " + classes + " classes", classes <= MOST_CLASSES);
        int deepest = 0;
        for (Element each : calls.keySet()) {
            deepest = Math.max(deepest, depth(each, new HashSet<>()));
        }
        System.out.println("RulesTest: calls go " + deepest + " deep");
        CHECK.holds("rule 11: calls go " + deepest + " deep", deepest <= MOST_DEPTH);
    }

    /** How many calls stand open at once, this one among them. */
    private int depth(Element caller, Set<Element> open) {
        if (!open.add(caller)) {
            CHECK.holds("rule 8: no recursion by " + caller, false);
            return 0;
        }
        int deepest = 0;
        for (Element called : calls.getOrDefault(caller, Set.of())) {
            deepest = Math.max(deepest, depth(called, open));
        }
        open.remove(caller);
        return deepest + 1;
    }

    @Override
    public Void scan(Tree tree, Void nothing) {
        if (tree != null) {
            CHECK.holds("no " + tree.getKind() + ": " + tree, !BANNED.contains(tree.getKind()));
        }
        return super.scan(tree, nothing);
    }

    @Override
    public Void visitClass(ClassTree tree, Void nothing) {
        classes++;
        boolean outer = getCurrentPath().getParentPath().getLeaf() == unit;
        Set<Modifier> modifiers = tree.getModifiers().getFlags();
        CHECK.holds("rule 1, 2: modifiers of " + tree.getSimpleName(), modifiers.equals(outer
                ? Set.of(Modifier.PUBLIC, Modifier.FINAL)
                : Set.of(Modifier.PRIVATE, Modifier.STATIC, Modifier.FINAL)));
        int fields = 0;
        for (Tree member : tree.getMembers()) {
            CHECK.holds("rule 5: no initialiser block", member.getKind() != Tree.Kind.BLOCK);
            if (member instanceof VariableTree field) {
                fields += field(field) ? 0 : 1;
            }
        }
        CHECK.holds("rule 11: fields of " + tree.getSimpleName(), fields <= MOST_FIELDS);
        return super.visitClass(tree, nothing);
    }

    /** Is it a constant? */
    private boolean field(VariableTree field) {
        String type = field.getType().toString();
        Set<Modifier> modifiers = field.getModifiers().getFlags();
        boolean constant = modifiers.contains(Modifier.STATIC);
        if (constant) {
            CHECK.holds("rule 5: a constant: " + field.getName(),
                    modifiers.contains(Modifier.FINAL) && CONSTANTS.contains(type));
            CHECK.holds("rule 5: written out: " + field.getName(), type.equals("int")
                    || field.getInitializer().getKind() == Tree.Kind.NEW_ARRAY);
        } else {
            CHECK.holds("rule 1: private: " + field.getName(),
                    modifiers.contains(Modifier.PRIVATE));
            CHECK.holds("rule 3: type of " + field.getName(),
                    FIELDS.contains(type) || isOwnClass(type));
        }
        return constant;
    }

    private boolean isOwnClass(String type) {
        return unit.getTypeDecls().stream().flatMap(c -> ((ClassTree) c).getMembers().stream())
                .anyMatch(m -> m instanceof ClassTree own && own.getSimpleName().contentEquals(type));
    }

    @Override
    public Void visitMethod(MethodTree tree, Void nothing) {
        method = trees.getElement(getCurrentPath());
        calls.putIfAbsent(method, new HashSet<>());
        CHECK.holds("rule 11: parameters of " + tree.getName(),
                tree.getParameters().size() <= MOST_PARAMETERS);
        CHECK.holds("rule 11: lines of " + tree.getName(), lines(tree) <= MOST_LINES);
        super.visitMethod(tree, nothing);
        method = null;
        return null;
    }

    private long lines(Tree tree) {
        long start = positions.getStartPosition(unit, tree);
        long end = positions.getEndPosition(unit, tree);
        return end < 0 ? 0
                : unit.getLineMap().getLineNumber(end) - unit.getLineMap().getLineNumber(start) + 1;
    }

    @Override
    public Void visitMethodInvocation(MethodInvocationTree tree, Void nothing) {
        Element called = trees.getElement(getCurrentPath());
        Element owner = called.getEnclosingElement();
        if (isOwn(owner)) {
            CHECK.holds("rule 12: a constructor calls no method: " + tree,
                    method.getKind() != ElementKind.CONSTRUCTOR
                            || called.getKind() == ElementKind.CONSTRUCTOR);
            calls.get(method).add(called);
        } else if (called.getKind() != ElementKind.CONSTRUCTOR) {
            String name = owner + "." + called.getSimpleName();
            CHECK.holds("rule 4: " + name + " is let in", LIBRARY.contains(name));
        }
        return super.visitMethodInvocation(tree, nothing);
    }

    private static boolean isOwn(Element owner) {
        String name = owner.toString();
        return name.equals("PacketGuard") || name.startsWith("PacketGuard.");
    }

    @Override
    public Void visitNewClass(NewClassTree tree, Void nothing) {
        Element made = trees.getElement(getCurrentPath()).getEnclosingElement();
        CHECK.holds("no class without a name: " + tree, tree.getClassBody() == null);
        if (isOwn(made)) {
            CHECK.holds("the room: made with the object alone: " + tree, isMadeWithObject());
        } else {
            CHECK.holds("rule 6: " + tree + " is let in", EXCEPTIONS.contains(made.toString()));
        }
        return super.visitNewClass(tree, nothing);
    }

    @Override
    public Void visitNewArray(NewArrayTree tree, Void nothing) {
        CHECK.holds("the room: made with the object alone: " + tree, isMadeWithObject());
        CHECK.holds("rule 3: one dimension: " + tree, tree.getDimensions().size() <= 1);
        return super.visitNewArray(tree, nothing);
    }

    private boolean isMadeWithObject() {
        return method == null || method.getKind() == ElementKind.CONSTRUCTOR;
    }

    @Override
    public Void visitBinary(BinaryTree tree, Void nothing) {
        if (tree.getKind() == Tree.Kind.DIVIDE || tree.getKind() == Tree.Kind.REMAINDER) {
            CHECK.holds("rule 7: a divisor that is written down: " + tree,
                    isWrittenDivisor(tree.getRightOperand()));
        }
        return super.visitBinary(tree, nothing);
    }

    private boolean isWrittenDivisor(Tree divisor) {
        Object value = null;
        if (divisor instanceof LiteralTree literal) {
            value = literal.getValue();
        } else if (trees.getElement(new TreePath(getCurrentPath(), divisor))
                instanceof VariableElement constant) {
            value = constant.getConstantValue();
        }
        return value instanceof Integer number && number != 0;
    }

    @Override
    public Void visitThrow(ThrowTree tree, Void nothing) {
        CHECK.holds("rule 6: a new one is thrown: " + tree,
                tree.getExpression() instanceof NewClassTree made && hasWrittenText(made));
        CHECK.holds("rule 6: no throw in a constructor: " + tree,
                method.getKind() != ElementKind.CONSTRUCTOR);
        return super.visitThrow(tree, nothing);
    }

    private static boolean hasWrittenText(NewClassTree made) {
        List<Tree.Kind> kinds = new ArrayList<>();
        made.getArguments().forEach(a -> kinds.add(a.getKind()));
        return kinds.isEmpty() || kinds.equals(List.of(Tree.Kind.STRING_LITERAL));
    }
}

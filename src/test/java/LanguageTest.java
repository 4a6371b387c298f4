import com.sun.source.tree.ArrayAccessTree;
import com.sun.source.tree.AssignmentTree;
import com.sun.source.tree.BinaryTree;
import com.sun.source.tree.ClassTree;
import com.sun.source.tree.CompilationUnitTree;
import com.sun.source.tree.CompoundAssignmentTree;
import com.sun.source.tree.ExpressionTree;
import com.sun.source.tree.ForLoopTree;
import com.sun.source.tree.MemberSelectTree;
import com.sun.source.tree.MethodInvocationTree;
import com.sun.source.tree.MethodTree;
import com.sun.source.tree.NewArrayTree;
import com.sun.source.tree.NewClassTree;
import com.sun.source.tree.Tree;
import com.sun.source.tree.UnaryTree;
import com.sun.source.tree.VariableTree;
import com.sun.source.util.JavacTask;
import com.sun.source.util.TreePath;
import com.sun.source.util.TreePathScanner;
import com.sun.source.util.Trees;
import java.io.File;
import java.util.ArrayDeque;
import java.util.Deque;
import java.util.HashMap;
import java.util.HashSet;
import java.util.List;
import java.util.Map;
import java.util.Set;
import java.util.TreeSet;
import javax.lang.model.element.Element;
import javax.lang.model.element.ElementKind;
import javax.lang.model.element.Modifier;
import javax.tools.JavaCompiler;
import javax.tools.StandardJavaFileManager;
import javax.tools.ToolProvider;

/** What of ../shared/LANGUAGE.md can be read off the source, with the numbers of its rules. */
public final class LanguageTest {
    private static final String SOURCE = "src/main/java/GrownAsks.java";
    private static final Set<Tree.Kind> REFUSED = Set.of(Tree.Kind.THROW, Tree.Kind.TRY,
            Tree.Kind.CATCH, Tree.Kind.SYNCHRONIZED, Tree.Kind.ASSERT, Tree.Kind.LAMBDA_EXPRESSION,
            Tree.Kind.MEMBER_REFERENCE, Tree.Kind.IMPORT, Tree.Kind.PACKAGE);

    /** Stricter than rule 9: with loops that count alone, each end can be seen. */
    private static final Set<Tree.Kind> NO_COUNTER = Set.of(Tree.Kind.WHILE_LOOP, Tree.Kind.DO_WHILE_LOOP);
    private static final Set<Tree.Kind> BOUNDS = Set.of(Tree.Kind.LESS_THAN, Tree.Kind.LESS_THAN_EQUAL,
            Tree.Kind.GREATER_THAN, Tree.Kind.GREATER_THAN_EQUAL);

    /** Stricter than rule 3: what this class has need of. */
    private static final Set<String> TYPES = Set.of("int", "long", "boolean", "int[]", "long[]");
    private static final Set<String> FIXED_TYPES = Set.of("int", "long", "int[]");
    private static final Set<String> LIBRARY = Set.of("Math.max", "Math.min", "Integer.bitCount",
            "Integer.numberOfTrailingZeros", "Integer.highestOneBit", "Object.<init>");
    private static final Set<String> FACE = Set.of("row", "read", "at", "put", "empty", "type", "wipe",
            "fault", "byteOf", "acts", "means", "meant", "set", "has", "which", "fired", "tell",
            "quarrels", "cut", "led", "wrong", "grow", "learn", "learnt", "next", "holds", "seen",
            "blind", "sheet", "lose", "lay", "get", "copy", "write", "count", "digest");
    private static final Set<String> CONSTANTS = Set.of("NONE", "BAD", "NOT", "FULL");

    private final Check check = new Check("LanguageTest");
    private final Map<Element, Set<Element>> calls = new HashMap<>();
    private final Deque<Element> open = new ArrayDeque<>();
    private Trees trees;
    private CompilationUnitTree unit;
    private int classes = 0;

    public static void main(String[] args) throws Exception {
        new LanguageTest().all();
    }

    private void all() throws Exception {
        JavaCompiler compiler = ToolProvider.getSystemJavaCompiler();
        StandardJavaFileManager files = compiler.getStandardFileManager(null, null, null);
        JavacTask task = (JavacTask) compiler.getTask(null, files, null, List.of("-proc:none"), null,
                files.getJavaFileObjects(new File(SOURCE)));
        trees = Trees.instance(task);
        unit = task.parse().iterator().next();
        task.analyze();
        new Reader().scan(unit, null);
        check.isTrue("rule 11: classes are at most twelve", classes <= 12);
        Set<String> seen = new TreeSet<>();
        for (Element method : calls.keySet()) {
            if (method.getModifiers().contains(Modifier.PUBLIC)) seen.add(method.getSimpleName().toString());
            int deep = depth(method, new HashSet<>());
            check.isTrue("rule 11: " + method + " calls " + deep + " deep", deep <= 8);
        }
        Set<String> face = new TreeSet<>(FACE);
        face.add("<init>");
        check.isTrue("rule 1: the face is " + face + ", here it is " + seen, seen.equals(face));
        check.end();
    }

    private int depth(Element method, Set<Element> above) {
        if (!above.add(method)) {
            check.isTrue("rule 8: " + method + " calls itself", false);
            return 1;
        }
        int deepest = 0;
        for (Element called : calls.getOrDefault(method, Set.of())) {
            deepest = Math.max(deepest, depth(called, above));
        }
        above.remove(method);
        return 1 + deepest;
    }

    private final class Reader extends TreePathScanner<Void, Void> {
        private String where(Tree tree) {
            long at = trees.getSourcePositions().getStartPosition(unit, tree);
            return "line " + unit.getLineMap().getLineNumber(at);
        }

        private long lines(Tree tree) {
            return unit.getLineMap().getLineNumber(trees.getSourcePositions().getEndPosition(unit, tree))
                    - unit.getLineMap().getLineNumber(trees.getSourcePositions().getStartPosition(unit, tree)) + 1;
        }

        @Override
        public Void scan(Tree tree, Void none) {
            if (tree != null && REFUSED.contains(tree.getKind())) {
                check.isTrue("rules 2, 4, 6: " + where(tree) + " has " + tree.getKind(), false);
            }
            if (tree != null && NO_COUNTER.contains(tree.getKind())) {
                check.isTrue("rule 9: " + where(tree) + " has no counter", false);
            }
            return super.scan(tree, none);
        }

        @Override
        public Void visitClass(ClassTree tree, Void none) {
            classes++;
            Set<Modifier> marks = tree.getModifiers().getFlags();
            boolean outer = tree.getSimpleName().contentEquals("GrownAsks");
            check.isTrue("rule 1: class " + tree.getSimpleName(), outer
                    ? marks.equals(Set.of(Modifier.PUBLIC, Modifier.FINAL))
                    : marks.contains(Modifier.PRIVATE) && marks.contains(Modifier.STATIC));
            int fields = 0;
            for (Tree member : tree.getMembers()) {
                check.isTrue("rule 5: no initialiser block", member.getKind() != Tree.Kind.BLOCK);
                if (member instanceof VariableTree) fields += isField((VariableTree) member, outer) ? 1 : 0;
            }
            check.isTrue("rule 11: " + fields + " fields in " + tree.getSimpleName(), fields <= 20);
            return super.visitClass(tree, none);
        }

        private boolean isField(VariableTree field, boolean outer) {
            Set<Modifier> marks = field.getModifiers().getFlags();
            boolean fixed = marks.contains(Modifier.STATIC);
            check.isTrue("rule 5: " + field.getName(), !fixed || marks.contains(Modifier.FINAL)
                    && FIXED_TYPES.contains(field.getType().toString()) && field.getInitializer() != null);
            if (outer) {
                boolean face = CONSTANTS.contains(field.getName().toString());
                check.isTrue("rule 1: " + field.getName(),
                        marks.contains(face ? Modifier.PUBLIC : Modifier.PRIVATE));
            }
            return !fixed;
        }

        @Override
        public Void visitVariable(VariableTree tree, Void none) {
            String type = trees.getTypeMirror(new TreePath(getCurrentPath(), tree.getType())).toString();
            boolean own = type.startsWith("GrownAsks.") && !type.contains("[][]");
            check.isTrue("rule 3: " + where(tree) + " has a " + type, own || TYPES.contains(type));
            return super.visitVariable(tree, none);
        }

        @Override
        public Void visitForLoop(ForLoopTree tree, Void none) {
            boolean counts = tree.getInitializer().size() == 1 && tree.getUpdate().size() == 1;
            check.isTrue("rule 9: " + where(tree) + " counts against a bound",
                    counts && tree.getCondition() != null && isBounded(tree.getCondition(),
                            ((VariableTree) tree.getInitializer().get(0)).getName().toString()));
            return super.visitForLoop(tree, none);
        }

        private boolean isBounded(ExpressionTree condition, String counter) {
            if (condition.getKind() == Tree.Kind.CONDITIONAL_AND) {
                BinaryTree both = (BinaryTree) condition;
                return isBounded(both.getLeftOperand(), counter) || isBounded(both.getRightOperand(), counter);
            }
            return BOUNDS.contains(condition.getKind())
                    && ((BinaryTree) condition).getLeftOperand().toString().matches("\\Q" + counter + "\\E\\b.*");
        }

        @Override
        public Void visitAssignment(AssignmentTree tree, Void none) {
            noteChange(tree.getVariable());
            return super.visitAssignment(tree, none);
        }

        @Override
        public Void visitCompoundAssignment(CompoundAssignmentTree tree, Void none) {
            noteChange(tree.getVariable());
            return super.visitCompoundAssignment(tree, none);
        }

        @Override
        public Void visitUnary(UnaryTree tree, Void none) {
            if (tree.getKind().name().endsWith("CREMENT")) noteChange(tree.getExpression());
            return super.visitUnary(tree, none);
        }

        private void noteChange(ExpressionTree changed) {
            if (!(changed instanceof ArrayAccessTree)) return;
            TreePath row = new TreePath(new TreePath(getCurrentPath(), changed),
                    ((ArrayAccessTree) changed).getExpression());
            check.isTrue("rule 5: " + where(changed) + " changes a constant",
                    !trees.getElement(row).getModifiers().contains(Modifier.STATIC));
        }

        @Override
        public Void visitMethod(MethodTree tree, Void none) {
            Element method = trees.getElement(getCurrentPath());
            Set<Modifier> marks = tree.getModifiers().getFlags();
            boolean outer = method.getEnclosingElement().getSimpleName().contentEquals("GrownAsks");
            String name = tree.getName().toString();
            if (outer) {
                boolean face = marks.contains(Modifier.PUBLIC);
                check.isTrue("rule 1: " + name, face || marks.contains(Modifier.PRIVATE));
            }
            check.isTrue("rule 1: " + name + " bears a name of the face",
                    !FACE.contains(name) || outer && marks.contains(Modifier.PUBLIC));
            check.isTrue("rule 11: parameters of " + name, tree.getParameters().size() <= 7);
            check.isTrue("rule 11: lines of " + name, lines(tree) <= 60);
            calls.putIfAbsent(method, new HashSet<>());
            open.push(method);
            super.visitMethod(tree, none);
            open.pop();
            return null;
        }

        @Override
        public Void visitMethodInvocation(MethodInvocationTree tree, Void none) {
            noteCall(trees.getElement(new TreePath(getCurrentPath(), tree.getMethodSelect())), tree);
            return super.visitMethodInvocation(tree, none);
        }

        @Override
        public Void visitNewClass(NewClassTree tree, Void none) {
            noteMade(tree);
            noteCall(trees.getElement(getCurrentPath()), tree);
            return super.visitNewClass(tree, none);
        }

        @Override
        public Void visitNewArray(NewArrayTree tree, Void none) {
            noteMade(tree);
            return super.visitNewArray(tree, none);
        }

        @Override
        public Void visitMemberSelect(MemberSelectTree tree, Void none) {
            String text = tree.toString();
            check.isTrue("rule 4: " + where(tree) + " uses " + text,
                    !text.startsWith("java") && !text.startsWith("System"));
            noteField(trees.getElement(getCurrentPath()), tree);
            return super.visitMemberSelect(tree, none);
        }

        /** Rule 4 lists functions of the library and none of its fields, constants neither. */
        private void noteField(Element named, Tree tree) {
            if (named == null || !named.getKind().isField() || named.getEnclosingElement() == null) return;
            Element owner = named.getEnclosingElement();
            String name = owner.getSimpleName() + "." + named;
            // an array's length is the language's own, though the compiler tells it as a field
            check.isTrue("rule 4: " + where(tree) + " uses the library's " + name,
                    owner.toString().startsWith("GrownAsks") || name.equals("Array.length"));
        }

        private void noteCall(Element called, Tree tree) {
            Element owner = called.getEnclosingElement();
            boolean own = owner.toString().startsWith("GrownAsks");
            String name = owner.getSimpleName() + "." + called.getSimpleName();
            check.isTrue("rule 4: " + where(tree) + " calls " + name, own || LIBRARY.contains(name));
            if (own && !open.isEmpty()) calls.get(open.peek()).add(called);
        }

        /** Stricter than rule 12: the room is for all calls of a run, so only constructors take of it. */
        private void noteMade(Tree tree) {
            check.isTrue("rule 12: " + where(tree) + " makes something in a call",
                    open.isEmpty() || open.peek().getKind() == ElementKind.CONSTRUCTOR);
        }
    }
}

import com.sun.source.tree.AssignmentTree;
import com.sun.source.tree.BinaryTree;
import com.sun.source.tree.CompilationUnitTree;
import com.sun.source.tree.CompoundAssignmentTree;
import com.sun.source.tree.ConditionalExpressionTree;
import com.sun.source.tree.ExpressionStatementTree;
import com.sun.source.tree.IdentifierTree;
import com.sun.source.tree.IfTree;
import com.sun.source.tree.LiteralTree;
import com.sun.source.tree.MemberSelectTree;
import com.sun.source.tree.ReturnTree;
import com.sun.source.tree.Tree;
import com.sun.source.tree.UnaryTree;
import com.sun.source.util.JavacTask;
import com.sun.source.util.SourcePositions;
import com.sun.source.util.TreeScanner;
import com.sun.source.util.Trees;
import java.io.ByteArrayOutputStream;
import java.io.File;
import java.io.OutputStream;
import java.io.PrintStream;
import java.net.URI;
import java.nio.file.Files;
import java.nio.file.Path;
import java.util.ArrayList;
import java.util.Arrays;
import java.util.HashMap;
import java.util.List;
import java.util.Map;
import java.util.TreeMap;
import java.util.concurrent.ExecutorService;
import java.util.concurrent.Executors;
import java.util.concurrent.TimeUnit;
import javax.tools.FileObject;
import javax.tools.ForwardingJavaFileManager;
import javax.tools.JavaCompiler;
import javax.tools.JavaFileManager;
import javax.tools.JavaFileObject;
import javax.tools.SimpleJavaFileObject;
import javax.tools.StandardJavaFileManager;
import javax.tools.ToolProvider;

/**
 * Tries the tests, not the class: the class is changed in one place at a time, and the tests of the
 * document's sentences (Edges) are run on what comes of it. Tells the changes that none of them
 * finds and, if the whole class was tried, the sentences whose test found none.
 */
public final class Trial {
    private static final String SOURCE = "src/main/java/GrownAsks.java";
    private static final long MOST_SECONDS = 60;

    /** What stands from one place to another becomes something else. */
    private static final class Change {
        final int from, to;
        final String text;

        Change(int from, int to, String text) {
            this.from = from;
            this.to = to;
            this.text = text;
        }
    }

    private final JavaCompiler compiler = ToolProvider.getSystemJavaCompiler();
    private final List<Change> changes = new ArrayList<>();
    private final Map<String, Integer> foundBy = new TreeMap<>();
    private final PrintStream told = System.out;
    private final File tests;
    private String source;
    private int found = 0, endless = 0, notCompiled = 0;

    private Trial(File tests) {
        this.tests = tests;
    }

    /** The directory of the compiled tests; only changes in lines from one to another, if told. */
    public static void main(String[] args) throws Exception {
        int first = args.length > 1 ? Integer.parseInt(args[1]) : 1;
        int last = args.length > 2 ? Integer.parseInt(args[2]) : Integer.MAX_VALUE;
        new Trial(new File(args[0])).all(first, last);
        System.exit(0);
    }

    private void all(int first, int last) throws Exception {
        source = Files.readString(Path.of(SOURCE));
        findChanges();
        changes.removeIf(c -> line(c) < first || line(c) > last);
        // the tests print what they find, and here that is much
        System.setOut(new PrintStream(OutputStream.nullOutputStream()));
        ExecutorService pool = Executors.newFixedThreadPool(Runtime.getRuntime().availableProcessors());
        for (Change c : changes) pool.execute(() -> tryOut(c));
        pool.shutdown();
        pool.awaitTermination(1, TimeUnit.DAYS);
        // of some lines alone, most sentences have nothing to say
        boolean whole = first <= 1 && last == Integer.MAX_VALUE;
        for (Map.Entry<String, Integer> e : foundBy.entrySet()) {
            if (whole && e.getValue() == 0) told.println("finds none: " + e.getKey());
        }
        told.println(changes.size() + " changes: " + found + " found, " + endless + " found as endless, "
                + notCompiled + " not compiled, " + (changes.size() - found - endless - notCompiled) + " not found");
    }

    private int line(Change c) {
        return 1 + (int) source.substring(0, c.from).chars().filter(ch -> ch == '\n').count();
    }

    private String tell(Change c) {
        return "line " + line(c) + ": " + source.substring(c.from, c.to).replaceAll("\\s+", " ") + " -> " + c.text;
    }

    // ---- one change

    private void tryOut(Change c) {
        try {
            Map<String, byte[]> classes = compile(source.substring(0, c.from) + c.text + source.substring(c.to));
            if (classes == null) {
                count(0, 0, 1);
                return;
            }
            Runner runner = new Runner(new Loader(classes));
            runner.setDaemon(true);
            runner.start();
            runner.join(MOST_SECONDS * 1000);
            if (runner.isAlive()) {
                stop(runner);
                count(0, 1, 0);
            } else {
                note(c, runner.broken);
            }
        } catch (Exception e) {
            throw new IllegalStateException(tell(c), e);
        }
    }

    /** A change may make a loop that does not end, and there is no other way to be rid of it. */
    @SuppressWarnings({"deprecation", "removal"})
    private static void stop(Thread thread) {
        thread.stop();
    }

    private synchronized void count(int isFound, int isEndless, int isNotCompiled) {
        found += isFound;
        endless += isEndless;
        notCompiled += isNotCompiled;
    }

    private synchronized void note(Change c, Map<String, Boolean> broken) {
        for (Map.Entry<String, Boolean> e : broken.entrySet()) {
            foundBy.merge(e.getKey(), e.getValue() ? 1 : 0, Integer::sum);
        }
        if (broken.containsValue(true)) {
            count(1, 0, 0);
        } else {
            told.println("not found: " + tell(c));
        }
    }

    /** Runs each edge, by its name: whether it broke. */
    private static final class Runner extends Thread {
        final Map<String, Boolean> broken = new HashMap<>();
        private final ClassLoader loader;

        Runner(ClassLoader loader) {
            this.loader = loader;
        }

        @Override
        public void run() {
            try {
                for (Object edge : (List<?>) call(loader.loadClass("Edges"), null, "all")) {
                    broken.put((String) call(edge.getClass(), edge, "name"), isBroken(edge));
                }
            } catch (ReflectiveOperationException e) {
                throw new IllegalStateException(e);
            }
        }

        private static boolean isBroken(Object edge) {
            try {
                return !(Boolean) call(edge.getClass(), edge, "holds");
            } catch (ReflectiveOperationException e) {
                return true;
            }
        }

        private static Object call(Class<?> type, Object of, String name) throws ReflectiveOperationException {
            java.lang.reflect.Method method = type.getDeclaredMethod(name);
            method.setAccessible(true);
            return method.invoke(of);
        }
    }

    /** The changed class, and the tests anew, that they speak to it. */
    private final class Loader extends ClassLoader {
        private final Map<String, byte[]> classes;

        Loader(Map<String, byte[]> classes) {
            super(ClassLoader.getPlatformClassLoader());
            this.classes = classes;
        }

        @Override
        protected Class<?> findClass(String name) throws ClassNotFoundException {
            try {
                byte[] bytes = classes.get(name);
                if (bytes == null) bytes = Files.readAllBytes(new File(tests, name + ".class").toPath());
                return defineClass(name, bytes, 0, bytes.length);
            } catch (java.io.IOException e) {
                throw new ClassNotFoundException(name, e);
            }
        }
    }

    private Map<String, byte[]> compile(String changed) throws Exception {
        Map<String, ByteArrayOutputStream> made = new HashMap<>();
        StandardJavaFileManager plain = compiler.getStandardFileManager(d -> { }, null, null);
        JavaFileManager files = new ForwardingJavaFileManager<JavaFileManager>(plain) {
            @Override
            public JavaFileObject getJavaFileForOutput(Location l, String name, JavaFileObject.Kind k, FileObject s) {
                return new SimpleJavaFileObject(URI.create("made:///" + name), k) {
                    @Override
                    public OutputStream openOutputStream() {
                        made.put(name, new ByteArrayOutputStream());
                        return made.get(name);
                    }
                };
            }
        };
        JavaFileObject one = new SimpleJavaFileObject(URI.create("told:///GrownAsks.java"), JavaFileObject.Kind.SOURCE) {
            @Override
            public CharSequence getCharContent(boolean ignore) {
                return changed;
            }
        };
        boolean good = compiler.getTask(null, files, d -> { }, List.of("-proc:none"), null, List.of(one)).call();
        if (!good) return null;
        Map<String, byte[]> classes = new HashMap<>();
        made.forEach((name, bytes) -> classes.put(name, bytes.toByteArray()));
        return classes;
    }

    // ---- the changes

    private void findChanges() throws Exception {
        StandardJavaFileManager files = compiler.getStandardFileManager(null, null, null);
        JavacTask task = (JavacTask) compiler.getTask(null, files, null, List.of("-proc:none"), null,
                files.getJavaFileObjects(new File(SOURCE)));
        CompilationUnitTree unit = task.parse().iterator().next();
        new Finder(unit, Trees.instance(task).getSourcePositions()).scan(unit, null);
    }

    private final class Finder extends TreeScanner<Void, Void> {
        private final CompilationUnitTree unit;
        private final SourcePositions places;

        Finder(CompilationUnitTree unit, SourcePositions places) {
            this.unit = unit;
            this.places = places;
        }

        private int start(Tree t) {
            return (int) places.getStartPosition(unit, t);
        }

        private int end(Tree t) {
            return (int) places.getEndPosition(unit, t);
        }

        private void become(Tree t, String... texts) {
            for (String text : texts) changes.add(new Change(start(t), end(t), text));
        }

        /** The sign between two trees becomes another. */
        private void sign(Tree left, Tree right, String sign, String... others) {
            int at = source.indexOf(sign, end(left));
            if (at < 0 || at > start(right)) return;
            for (String other : others) changes.add(new Change(at, at + sign.length(), other));
        }

        @Override
        public Void visitBinary(BinaryTree t, Void none) {
            Object[][] turns = {{Tree.Kind.LESS_THAN, "<", "<=", ">"}, {Tree.Kind.LESS_THAN_EQUAL, "<=", "<", ">="},
                {Tree.Kind.GREATER_THAN, ">", ">=", "<"}, {Tree.Kind.GREATER_THAN_EQUAL, ">=", ">", "<="},
                {Tree.Kind.EQUAL_TO, "==", "!="}, {Tree.Kind.NOT_EQUAL_TO, "!=", "=="},
                {Tree.Kind.PLUS, "+", "-"}, {Tree.Kind.MINUS, "-", "+"}, {Tree.Kind.MULTIPLY, "*", "+"},
                {Tree.Kind.DIVIDE, "/", "*"}, {Tree.Kind.REMAINDER, "%", "/"}, {Tree.Kind.AND, "&", "|"},
                {Tree.Kind.OR, "|", "&"}, {Tree.Kind.XOR, "^", "|"}, {Tree.Kind.LEFT_SHIFT, "<<", ">>"},
                {Tree.Kind.RIGHT_SHIFT, ">>", "<<"}, {Tree.Kind.UNSIGNED_RIGHT_SHIFT, ">>>", ">>"},
                {Tree.Kind.CONDITIONAL_AND, "&&", "||"}, {Tree.Kind.CONDITIONAL_OR, "||", "&&"}};
            for (Object[] turn : turns) {
                if (turn[0] != t.getKind()) continue;
                String[] others = Arrays.copyOfRange(turn, 2, turn.length, String[].class);
                sign(t.getLeftOperand(), t.getRightOperand(), (String) turn[1], others);
            }
            boolean joins = t.getKind() == Tree.Kind.CONDITIONAL_AND || t.getKind() == Tree.Kind.CONDITIONAL_OR;
            String idle = t.getKind() == Tree.Kind.CONDITIONAL_AND ? "true" : "false";
            if (joins) become(t.getLeftOperand(), idle);
            if (joins) become(t.getRightOperand(), idle);
            return super.visitBinary(t, none);
        }

        @Override
        public Void visitUnary(UnaryTree t, Void none) {
            int operand = start(t.getExpression());
            if (start(t) < operand) changes.add(new Change(start(t), operand, ""));
            return super.visitUnary(t, none);
        }

        @Override
        public Void visitLiteral(LiteralTree t, Void none) {
            if (t.getValue() instanceof Integer) {
                int v = (Integer) t.getValue();
                become(t, String.valueOf(v + 1), String.valueOf(v - 1));
            } else if (t.getValue() instanceof Character) {
                become(t, String.valueOf((int) (Character) t.getValue() + 1));
            } else if (t.getValue() instanceof Boolean) {
                become(t, String.valueOf(!(Boolean) t.getValue()));
            }
            return super.visitLiteral(t, none);
        }

        @Override
        public Void visitIf(IfTree t, Void none) {
            become(t.getCondition(), "(true)", "(false)");
            return super.visitIf(t, none);
        }

        @Override
        public Void visitConditionalExpression(ConditionalExpressionTree t, Void none) {
            changes.add(new Change(start(t), end(t), "(" + text(t.getTrueExpression()) + ")"));
            changes.add(new Change(start(t), end(t), "(" + text(t.getFalseExpression()) + ")"));
            return super.visitConditionalExpression(t, none);
        }

        private String text(Tree t) {
            return source.substring(start(t), end(t));
        }

        /** Names that might have been taken for one another. */
        private void otherNames(String name, int at) {
            String[][] alike = {{"yesOf", "nothingOf", "noOf"}, {"less", "like", "more", "lacking", "bothLacking"},
                {"text0", "text1", "spare"}, {"engine", "meaning"}, {"rules", "faults"}, {"total", "kinds"},
                {"both", "either"}, {"turned", "asked"}, {"leftAt", "rightAt"}, {"left", "right"}, {"from", "to"},
                {"NULL", "INDEX", "CAST", "STORE", "SIZE"}, {"NONE", "BAD", "NOT", "FULL", "NO_CELL", "NO_TEST"},
                {"row", "column"}, {"a", "b", "c"}, {"s", "t", "i", "j", "n"}, {"yes", "no", "nothing"},
                {"above", "below"}, {"wide", "narrow"}, {"openTests", "openTerms"}, {"first", "second"}, {"v", "w"},
                {"text", "act"}, {"what", "law"}, {"form", "size"}, {"LEAST", "MOST"}, {"ROWS", "COLUMNS", "BYTES"},
                {"FORMS", "SHEETS", "ITEMS"}, {"RULES", "LAWS"}, {"signAt", "sizeAt"}, {"length", "actCount"}};
            for (String[] names : alike) {
                if (!Arrays.asList(names).contains(name)) continue;
                for (String other : names) {
                    if (!other.equals(name)) changes.add(new Change(at, at + name.length(), other));
                }
            }
        }

        @Override
        public Void visitIdentifier(IdentifierTree t, Void none) {
            otherNames(t.getName().toString(), start(t));
            return super.visitIdentifier(t, none);
        }

        @Override
        public Void visitMemberSelect(MemberSelectTree t, Void none) {
            otherNames(t.getIdentifier().toString(), end(t) - t.getIdentifier().length());
            return super.visitMemberSelect(t, none);
        }

        @Override
        public Void visitReturn(ReturnTree t, Void none) {
            if (t.getExpression() != null && !(t.getExpression() instanceof LiteralTree)) {
                become(t.getExpression(), "0", "1", "true", "false");
            }
            return super.visitReturn(t, none);
        }

        @Override
        public Void visitExpressionStatement(ExpressionStatementTree t, Void none) {
            become(t, ";");
            return super.visitExpressionStatement(t, none);
        }

        @Override
        public Void visitAssignment(AssignmentTree t, Void none) {
            if (t.getExpression() instanceof LiteralTree) become(t.getExpression(), "1", "0");
            return super.visitAssignment(t, none);
        }

        @Override
        public Void visitCompoundAssignment(CompoundAssignmentTree t, Void none) {
            sign(t.getVariable(), t.getExpression(), "|=", "&=", "=");
            sign(t.getVariable(), t.getExpression(), "&=", "|=", "=");
            sign(t.getVariable(), t.getExpression(), "+=", "-=", "=");
            return super.visitCompoundAssignment(t, none);
        }
    }
}

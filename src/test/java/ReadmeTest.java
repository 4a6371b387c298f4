import java.io.File;
import java.lang.reflect.Method;
import java.lang.reflect.Modifier;
import java.net.URL;
import java.net.URLClassLoader;
import java.nio.file.Files;
import java.nio.file.Path;
import java.util.ArrayList;
import java.util.List;
import java.util.regex.Matcher;
import java.util.regex.Pattern;
import javax.tools.ToolProvider;

/** README.md: its lines of Java are compiled and run, and it leaves out no call and no test. */
public final class ReadmeTest {
    private static final Pattern BLOCK = Pattern.compile("```java\n(.*?)```", Pattern.DOTALL);
    private static final Pattern ASKED = Pattern.compile("(x\\.\\w+\\([^;]*\\));\\s*// (-?\\d+)(:.*)?");

    private final Check check = new Check("ReadmeTest");
    private final List<String> asked = new ArrayList<>();
    private final List<Long> due = new ArrayList<>();

    public static void main(String[] args) throws Exception {
        new ReadmeTest().all();
    }

    private void all() throws Exception {
        String page = Files.readString(Path.of("README.md"));
        String lines = linesOf(page);
        runLines(lines);
        namesCalls(lines);
        namesTests(page);
        check.end();
    }

    /** The page's lines of Java; those with an answer behind them keep it in a list. */
    private String linesOf(String page) {
        StringBuilder all = new StringBuilder();
        Matcher block = BLOCK.matcher(page);
        while (block.find()) {
            for (String line : block.group(1).split("\n")) {
                Matcher ask = ASKED.matcher(line.trim());
                if (ask.matches()) {
                    asked.add(ask.group(1));
                    due.add(Long.parseLong(ask.group(2)));
                    all.append("answers.add((long) ").append(ask.group(1)).append(");\n");
                } else {
                    all.append(line).append('\n');
                }
            }
        }
        return all.toString();
    }

    private void runLines(String lines) throws Exception {
        Path room = Files.createTempDirectory("readme");
        Path file = room.resolve("ReadmeLines.java");
        Files.writeString(file, "import java.util.*;\npublic class ReadmeLines {\n"
                + "public static List<Long> answers() {\nList<Long> answers = new ArrayList<>();\n"
                + lines + "return answers;\n}\n}\n");
        int code = ToolProvider.getSystemJavaCompiler().run(null, null, null, "-proc:none", "-cp",
                System.getProperty("java.class.path"), "-d", room.toString(), file.toString());
        check.due("the lines compile", code, 0);
        if (code == 0) holdAgainst(room);
        for (File made : room.toFile().listFiles()) made.delete();
        Files.delete(room);
    }

    private void holdAgainst(Path room) throws Exception {
        try (URLClassLoader loader = new URLClassLoader(new URL[] {room.toUri().toURL()})) {
            List<?> answers = (List<?>) loader.loadClass("ReadmeLines").getMethod("answers").invoke(null);
            check.due("lines with an answer", answers.size(), due.size());
            for (int i = 0; i < due.size(); i++) {
                check.due("line " + i + ", " + asked.get(i), (Long) answers.get(i), due.get(i));
            }
        }
    }

    private void namesCalls(String lines) {
        for (Method call : GrownAsks.class.getDeclaredMethods()) {
            if (!Modifier.isPublic(call.getModifiers())) continue;
            check.isTrue("README.md shows " + call.getName(), lines.contains("x." + call.getName() + "("));
        }
    }

    private void namesTests(String page) {
        for (String file : new File("src/test/java").list()) {
            String name = file.replace(".java", "");
            if (name.endsWith("Test")) check.isTrue("README.md names " + name, page.contains("| `" + name + "` |"));
        }
    }
}

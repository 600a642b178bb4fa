import java.io.File;
import java.io.IOException;
import java.io.PrintWriter;
import java.io.StringWriter;
import java.lang.reflect.Method;
import java.lang.reflect.Modifier;
import java.net.URL;
import java.net.URLClassLoader;
import java.nio.file.Files;
import java.nio.file.Path;
import java.util.ArrayList;
import java.util.Arrays;
import java.util.List;
import java.util.NoSuchElementException;
import java.util.TreeSet;
import java.util.regex.Matcher;
import java.util.regex.Pattern;
import java.util.spi.ToolProvider;

/**
 * README.md: its blocks of Java are put together to one program, compiled and run, and each answer that stands
 * behind a call is compared; so what a reader copies from the page works.
 */
public final class ReadmeTest {
    private static final Path PAGE = Path.of("README.md");
    private static final Path TESTS = Path.of("src/test/java");
    private static final String ANSWER = "-?\\d+|true|false|throws NoSuchElementException";
    private static final Pattern CALL = Pattern.compile(
        "(x\\.(\\w+)\\([^;]*\\));\\s+// (" + ANSWER + ")(?:, ROW((?: -?\\d+)+))?(?:: .*)?");
    private static final Pattern WITHOUT_ANSWER = Pattern.compile("CoachesVote x = new CoachesVote\\(\\);|say\\(x, \"[^\"]*\"\\);");

    /** Calls of the page, in their order, with what stands behind them. */
    private static final List<Matcher> SHOWN = new ArrayList<>();

    public static void main(String[] args) throws IOException, InterruptedException, ReflectiveOperationException {
        String page = Files.readString(PAGE);
        String program = program(page);
        allCallsAreShown();
        run(program);
        commands(page);
        table(page);
        Check.finish("ReadmeTest");
    }

    private static List<String> blocks(String page, String language) {
        List<String> found = new ArrayList<>();
        Matcher m = Pattern.compile("(?s)\n```" + language + "\n(.*?)\n```\n").matcher(page);
        while (m.find()) {
            found.add(m.group(1));
        }
        return found;
    }

    private static String program(String page) {
        StringBuilder methods = new StringBuilder();
        StringBuilder calls = new StringBuilder();
        for (String block : blocks(page, "java")) {
            if (block.startsWith("static ")) {
                methods.append(block).append('\n');
                continue;
            }
            for (String line : block.split("\n")) {
                calls.append(statement(line)).append('\n');
            }
        }
        return "public final class ReadmeCalls {\n" + methods + "public static void make() {\n" + calls + "}\n}\n";
    }

    private static String statement(String line) {
        Matcher m = CALL.matcher(line);
        if (!m.matches()) {
            Check.yes("README.md shows a call with its answer: " + line, WITHOUT_ANSWER.matcher(line).matches());
            return line;
        }
        SHOWN.add(m);
        return "ReadmeTest.look(" + (SHOWN.size() - 1) + ", x, () -> " + m.group(1) + ");";
    }

    /** A call of the page, with any of the types that calls answer. */
    public interface Shown {
        Object make();
    }

    public static void look(int number, CoachesVote x, Shown call) {
        Matcher shown = SHOWN.get(number);
        String answer;
        try {
            answer = String.valueOf(call.make());
        } catch (NoSuchElementException e) {
            answer = "throws NoSuchElementException";
        }
        Check.yes("README.md, " + shown.group(0) + " -- it answered " + answer, answer.equals(shown.group(3)));
        if (shown.group(4) != null) {
            long[] row = Arrays.stream(shown.group(4).trim().split(" ")).mapToLong(Long::parseLong).toArray();
            Check.row("README.md, " + shown.group(0), x, row);
        }
    }

    private static void allCallsAreShown() {
        TreeSet<String> missing = new TreeSet<>();
        for (Method m : CoachesVote.class.getDeclaredMethods()) {
            if (Modifier.isPublic(m.getModifiers())) {
                missing.add(m.getName());
            }
        }
        Check.same("calls of the face", missing.size(), 43);
        for (Matcher m : SHOWN) {
            missing.remove(m.group(2));
        }
        Check.yes("README.md shows every call, but for " + missing, missing.isEmpty());
    }

    private static void run(String program) throws IOException, ReflectiveOperationException {
        Path folder = Files.createTempDirectory("readme");
        Path file = Files.writeString(folder.resolve("ReadmeCalls.java"), program);
        StringWriter said = new StringWriter();
        PrintWriter out = new PrintWriter(said);
        int code = ToolProvider.findFirst("javac").orElseThrow().run(out, out, "-encoding", "UTF-8", "-d", folder.toString(),
            "-cp", System.getProperty("java.class.path"), file.toString());
        Check.same("README.md's Java is compiled: " + said, code, 0);
        if (code == 0) {
            try (URLClassLoader loader = new URLClassLoader(new URL[] {folder.toUri().toURL()}, ReadmeTest.class.getClassLoader())) {
                loader.loadClass("ReadmeCalls").getMethod("make").invoke(null);
            }
        }
        remove(folder);
    }

    private static void commands(String page) throws IOException, InterruptedException {
        List<String> blocks = blocks(page, "sh");
        Check.same("blocks of commands", blocks.size(), 1);
        for (String block : blocks) {
            Path folder = Files.createTempDirectory("readme");
            // In a folder of its own, so that the project's is left as it is.
            String commands = block.replace("-d out ", "-d " + folder + " ").replace("-cp out ", "-cp " + folder + " ");
            Check.no("the folder is another one: " + commands, commands.equals(block));
            Process p = new ProcessBuilder("sh", "-e", "-c", commands).redirectErrorStream(true).start();
            String said = new String(p.getInputStream().readAllBytes());
            Check.same("README.md's commands: " + commands + "\n" + said, p.waitFor(), 0);
            Check.yes("they run a test: " + said, said.contains(" answers, 0 not as due"));
            remove(folder);
        }
    }

    private static void table(String page) throws IOException {
        TreeSet<String> named = new TreeSet<>();
        Matcher row = Pattern.compile("\n\\| (`[^|]*)\\|").matcher(page);
        while (row.find()) {
            named.addAll(Arrays.asList(row.group(1).trim().replace("`", "").split(", ")));
            row.region(row.end(), page.length());
        }
        TreeSet<String> there = new TreeSet<>();
        try (var files = Files.list(TESTS)) {
            files.map(f -> f.getFileName().toString()).filter(f -> f.endsWith("Test.java"))
                .forEach(f -> there.add(f.replace(".java", "")));
        }
        Check.yes("README.md names the tests that there are: " + named + ", " + there, named.equals(there));
    }

    private static void remove(Path folder) {
        File[] files = folder.toFile().listFiles();
        for (File f : files == null ? new File[0] : files) {
            Check.yes("removed: " + f, f.delete());
        }
        Check.yes("removed: " + folder, folder.toFile().delete());
    }
}

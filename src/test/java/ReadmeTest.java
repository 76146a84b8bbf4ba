import java.io.File;
import java.io.IOException;
import java.lang.reflect.Method;
import java.lang.reflect.Modifier;
import java.net.URL;
import java.net.URLClassLoader;
import java.nio.charset.StandardCharsets;
import java.nio.file.Files;
import java.nio.file.Path;
import java.util.ArrayList;
import java.util.Comparator;
import java.util.List;
import java.util.Set;
import java.util.TreeSet;
import java.util.regex.Matcher;
import java.util.regex.Pattern;
import java.util.stream.Stream;
import javax.tools.JavaCompiler;
import javax.tools.ToolProvider;

/**
 * What README.md shows is so: its blocks of Java are compiled as they stand and run one behind another, and each
 * call answers the number that stands behind it; every call, every test and the command are named there.
 */
public final class ReadmeTest {
    private static final Path README = Path.of("README.md"), TESTS = Path.of("src/test/java");
    private static final String COMMAND = "bash .ci/run";
    private static final Pattern BLOCK = Pattern.compile("(?ms)^```java\n(.*?)^```$");
    private static final Pattern ANSWERED = Pattern.compile("(int (\\w+) = )?(x\\.(\\w+)\\(.*\\));\\s+// (-?\\d+): \\S.*");
    /** What needs no answer: the object is made, a tape is fed by the page's own method. */
    private static final Pattern SILENT = Pattern.compile("ElevenPebbles x = new ElevenPebbles\\(\\);|feed\\(x, \".*\"\\);");
    private static final Pattern ROW = Pattern.compile("(?m)^\\| `(\\w+)\\((.*?)\\)` \\| \\S.*\\|$");

    private final StringBuilder members = new StringBuilder();
    private final StringBuilder statements = new StringBuilder();
    private final List<String> calls = new ArrayList<>();
    private final List<Integer> wanted = new ArrayList<>();
    private final Set<String> shown = new TreeSet<>();

    public static void main(String[] args) throws Exception {
        String page = Files.readString(README, StandardCharsets.UTF_8);
        ReadmeTest test = new ReadmeTest();
        test.read(page);
        test.run();
        test.showsEveryCall();
        tablesTellEveryCall(page);
        namesTheCommand(page);
        namesEveryTest(page);
        Check.close("ReadmeTest");
    }

    private static Set<String> face() {
        Set<String> names = new TreeSet<>();
        for (Method m : ElevenPebbles.class.getDeclaredMethods()) {
            if (Modifier.isPublic(m.getModifiers())) {
                names.add(m.getName());
            }
        }
        return names;
    }

    private void read(String page) {
        Matcher block = BLOCK.matcher(page);
        while (block.find()) {
            if (block.group(1).startsWith("static ")) {
                members.append(block.group(1));
            } else {
                block.group(1).lines().forEach(this::readLine);
            }
        }
        Check.that("README.md shows a use of the class", !calls.isEmpty());
    }

    /** The line stays as it is, but that its answer is kept. */
    private void readLine(String line) {
        Matcher answered = ANSWERED.matcher(line);
        if (answered.matches()) {
            boolean isNamed = answered.group(1) != null;
            statements.append(isNamed ? line : "").append('\n');
            statements.append("got.add(").append(isNamed ? answered.group(2) : answered.group(3)).append(");\n");
            calls.add(answered.group(3));
            wanted.add(Integer.parseInt(answered.group(5)));
            shown.add(answered.group(4));
        } else {
            Check.that("README.md tells what this answers: " + line, SILENT.matcher(line).matches());
            statements.append(line).append('\n');
        }
    }

    private void run() throws Exception {
        Path made = Files.createTempDirectory("readme");
        try {
            Path source = made.resolve("Shown.java");
            Files.writeString(source, "public final class Shown {\n" + members
                + "public static java.util.List<Integer> answers() {\n"
                + "java.util.List<Integer> got = new java.util.ArrayList<>();\n" + statements + "return got;\n}\n}\n");
            JavaCompiler javac = ToolProvider.getSystemJavaCompiler();
            int code = javac == null ? 1 : javac.run(null, null, null, "-encoding", "UTF-8", "-d", made.toString(),
                "-cp", System.getProperty("java.class.path"), source.toString());
            Check.due("README.md's blocks compile", code, 0);
            if (code == 0) {
                compare(made);
            }
        } finally {
            remove(made);
        }
    }

    private void compare(Path made) throws Exception {
        try (URLClassLoader loader = new URLClassLoader(new URL[] {made.toUri().toURL()})) {
            List<?> got = (List<?>) loader.loadClass("Shown").getMethod("answers").invoke(null);
            Check.due("README.md's calls", got.size(), calls.size());
            for (int k = 0; k < calls.size(); k++) {
                Check.due("README.md: " + calls.get(k), (Integer) got.get(k), wanted.get(k));
            }
        }
    }

    private static void remove(Path made) throws IOException {
        try (Stream<Path> all = Files.walk(made)) {
            all.sorted(Comparator.reverseOrder()).map(Path::toFile).forEach(File::delete);
        }
    }

    private void showsEveryCall() {
        for (String name : face()) {
            Check.that("README.md shows what " + name + " answers", shown.contains(name));
        }
    }

    private static void tablesTellEveryCall(String page) {
        Set<String> told = new TreeSet<>();
        Matcher row = ROW.matcher(page);
        while (row.find()) {
            String parameters = row.group(2);
            told.add(row.group(1) + " of " + (parameters.isEmpty() ? 0 : parameters.split(", ").length));
        }
        Set<String> due = new TreeSet<>();
        for (Method m : ElevenPebbles.class.getDeclaredMethods()) {
            if (Modifier.isPublic(m.getModifiers())) {
                due.add(m.getName() + " of " + m.getParameterCount());
            }
        }
        Check.that("README.md's table has " + due + ", not " + told, due.equals(told));
        Object[][] constants = {{"NONE", ElevenPebbles.NONE}, {"BAD", ElevenPebbles.BAD},
            {"STATE", ElevenPebbles.STATE}, {"FULL", ElevenPebbles.FULL}};
        for (Object[] c : constants) {
            Check.that("README.md tells " + c[0], page.contains("| " + c[1] + " `" + c[0] + "` | "));
        }
    }

    private static void namesTheCommand(String page) {
        Check.that("README.md names the command " + COMMAND, page.contains("\n    " + COMMAND + "\n"));
        Check.that(".ci/run can be run", Files.isExecutable(Path.of(".ci/run")));
    }

    private static void namesEveryTest(String page) throws IOException {
        try (Stream<Path> files = Files.list(TESTS)) {
            files.map(f -> f.getFileName().toString().replace(".java", "")).forEach(
                name -> Check.that("README.md names " + name, page.contains("`" + name + "`")));
        }
    }
}

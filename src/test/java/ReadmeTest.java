import java.io.IOException;
import java.lang.reflect.Method;
import java.lang.reflect.Modifier;
import java.net.URL;
import java.net.URLClassLoader;
import java.nio.file.DirectoryStream;
import java.nio.file.Files;
import java.nio.file.Path;
import java.util.ArrayList;
import java.util.List;
import java.util.Set;
import java.util.TreeSet;
import java.util.regex.Matcher;
import java.util.regex.Pattern;
import javax.tools.ToolProvider;

/** That README.md is true: the calls it shows compile and answer what it says, and none is left out. */
public final class ReadmeTest {
    private static final Path README = Path.of("README.md");
    private static final Path TESTS = Path.of("src/test/java");
    private static final String NEW = "PackedBits x = new PackedBits();";
    private static final Pattern CALL = Pattern.compile(
            "(x\\.(\\w+)\\([^;]*\\)); *// (answers|throws) (-?\\w+)([,:] .*)?");
    private static final Pattern TABLE_CALL = Pattern.compile("\\| `(\\w+)\\(([^)]*)\\)` \\|.*");
    private static final Pattern TABLE_TEST = Pattern.compile("\\| `(\\w+Test)` \\|.*");

    private final List<String> lines;
    private final List<String> calls = new ArrayList<>();
    private final List<String> told = new ArrayList<>();
    private final Set<String> shown = new TreeSet<>();
    private final StringBuilder plain = new StringBuilder();
    private final StringBuilder asked = new StringBuilder();

    private ReadmeTest(List<String> lines) {
        this.lines = lines;
    }

    public static void main(String[] args) throws Exception {
        ReadmeTest test = new ReadmeTest(Files.readAllLines(README));
        test.readBlocks();
        test.theCallsAnswerWhatIsTold();
        test.everyCallIsShown();
        test.theTestsAreTold();
        Check.end();
    }

    private void readBlocks() {
        boolean inside = false;
        for (int i = 0; i < lines.size(); i++) {
            String line = lines.get(i);
            if (inside && !line.equals("```")) {
                readLine(i + 1, line);
            } else if (inside || line.equals("```java")) {
                inside = !inside;
                plain.append(inside ? "{\n" : "}\n");
                asked.append(inside ? "{\n" : "}\n");
            }
        }
    }

    private void readLine(int number, String line) {
        plain.append(line).append('\n');
        Matcher call = CALL.matcher(line);
        if (call.matches()) {
            calls.add("README.md, line " + number + ", " + call.group(1));
            told.add(call.group(4));
            shown.add(call.group(2));
            asked.append("try { got.add(String.valueOf(").append(call.group(1))
                    .append(")); } catch (RuntimeException e) { got.add(e.getClass().getSimpleName()); }\n");
            boolean thrown = call.group(4).endsWith("Exception");
            Check.due("README.md, line " + number + " says \"throws\"", call.group(3).equals("throws"), thrown);
        } else {
            asked.append(line).append('\n');
            boolean silent = line.isBlank() || line.equals(NEW);
            Check.due("README.md, line " + number + " needs no answer, or tells it", silent, true);
        }
    }

    /** The blocks stand in the class twice: as they are shown, and so that each answer is kept. */
    private String source() {
        return "public final class Readme {\n"
                + "static void shown() {\n" + plain + "}\n"
                + "public static java.util.List<String> answers() {\n"
                + "java.util.List<String> got = new java.util.ArrayList<>();\n" + asked
                + "return got;\n}\n}\n";
    }

    private void theCallsAnswerWhatIsTold() throws Exception {
        Path directory = Files.createTempDirectory("readme");
        Path source = directory.resolve("Readme.java");
        Path compiled = directory.resolve("Readme.class");
        Files.writeString(source, source());
        int code = ToolProvider.getSystemJavaCompiler().run(null, null, null, "--release", "17",
                "-cp", System.getProperty("java.class.path"), "-d", directory.toString(), source.toString());
        Check.due("README.md, the calls compile", code, 0);
        if (code == 0) {
            List<?> got = answers(directory);
            for (int i = 0; i < calls.size(); i++) {
                Check.due(calls.get(i), got.get(i), told.get(i));
            }
        }
        Files.deleteIfExists(compiled);
        Files.delete(source);
        Files.delete(directory);
    }

    private static List<?> answers(Path directory) throws Exception {
        URL[] place = {directory.toUri().toURL()};
        try (URLClassLoader loader = new URLClassLoader(place, ReadmeTest.class.getClassLoader())) {
            return (List<?>) loader.loadClass("Readme").getMethod("answers").invoke(null);
        }
    }

    private void everyCallIsShown() {
        Set<String> names = new TreeSet<>();
        Set<String> face = new TreeSet<>();
        for (Method m : PackedBits.class.getDeclaredMethods()) {
            if (Modifier.isPublic(m.getModifiers())) {
                names.add(m.getName());
                face.add(m.getName() + " of " + m.getParameterCount());
            }
        }
        Check.due("README.md, the calls with an answer", shown, names);
        Check.due("README.md, the table of all calls", callsOfTheTable(), face);
    }

    private Set<String> callsOfTheTable() {
        Set<String> table = new TreeSet<>();
        for (String line : lines) {
            Matcher call = TABLE_CALL.matcher(line);
            if (call.matches()) {
                String names = call.group(2);
                table.add(call.group(1) + " of " + (names.isEmpty() ? 0 : names.split(", ").length));
            }
        }
        return table;
    }

    private void theTestsAreTold() throws IOException {
        Set<String> there = new TreeSet<>();
        try (DirectoryStream<Path> files = Files.newDirectoryStream(TESTS, "*Test.java")) {
            for (Path file : files) {
                there.add(file.getFileName().toString().replace(".java", ""));
            }
        }
        Set<String> table = new TreeSet<>();
        for (String line : lines) {
            Matcher test = TABLE_TEST.matcher(line);
            if (test.matches()) {
                table.add(test.group(1));
            }
        }
        Check.due("README.md, the table of tests", table, there);
        Check.due("README.md says how to run them", lines.contains(".ci/run"), true);
        Check.due("what it says can be run", Files.isExecutable(Path.of(".ci/run")), true);
    }
}

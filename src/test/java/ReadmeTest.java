import java.io.IOException;
import java.lang.reflect.Modifier;
import java.net.URL;
import java.net.URLClassLoader;
import java.nio.file.Files;
import java.nio.file.Path;
import java.util.ArrayList;
import java.util.List;
import java.util.Set;
import java.util.TreeSet;
import java.util.function.Supplier;
import java.util.regex.Matcher;
import java.util.regex.Pattern;
import java.util.stream.Collectors;
import java.util.stream.Stream;
import javax.tools.ToolProvider;

/** What README.md says holds: its example gives the answers that it tells, and the tests that it lists are there. */
public final class ReadmeTest {
    private static final Path README = Path.of("README.md");
    private static final Path TESTS = Path.of("src/test/java");

    /** A call, what is kept of it (perhaps), and the answer that the comment behind it begins with. */
    private static final Pattern STEP = Pattern.compile("(?:int (\\w+) = )?(link\\.(\\w+)\\(.*?\\));\\s+// (-?\\w+).*");

    private static final Check CHECK = new Check("ReadmeTest");

    public static void main(String[] args) throws Exception {
        String readme = Files.readString(README);
        example(readme.substring(readme.indexOf("```java") + 7, readme.indexOf("```", readme.indexOf("```java") + 7)));
        CHECK.due("the tests that it lists", found("`(\\w+Test)`", readme).toString(), testsThatAreThere().toString());
        CHECK.due("the methods in its table", found("\\| `(\\w+)\\(", readme).toString(), methods().toString());
        CHECK.end();
    }

    private static void example(String example) throws Exception {
        List<String> lines = example.lines().map(String::strip).filter(line -> !line.isEmpty()).toList();
        CHECK.due("its first line", lines.get(0), "LinkShaper link = new LinkShaper();");
        List<Matcher> steps = new ArrayList<>();
        for (String line : lines.subList(1, lines.size())) {
            Matcher step = STEP.matcher(line);
            CHECK.due("a call with its answer is \"" + line + "\"", step.matches(), true);
            if (step.matches()) {
                steps.add(step);
            }
        }
        List<Object> answers = answers(steps);
        for (int i = 0; i < steps.size(); i++) {
            CHECK.due(steps.get(i).group(2), answers.get(i).toString(), steps.get(i).group(4));
        }
        Set<String> called = steps.stream().map(step -> step.group(3)).collect(Collectors.toCollection(TreeSet::new));
        CHECK.due("the methods in its example", called.toString(), methods().toString());
    }

    private static List<Object> answers(List<Matcher> steps) throws Exception {
        StringBuilder code = new StringBuilder("import java.util.*; import java.util.function.*;\n"
                + "public final class Example implements Supplier<List<Object>> {\n"
                + "public List<Object> get() { List<Object> answers = new ArrayList<>();\n"
                + "LinkShaper link = new LinkShaper();\n");
        for (Matcher step : steps) {
            boolean isKept = step.group(1) != null;
            code.append(isKept ? "int " + step.group(1) + " = " + step.group(2) + "; " : "");
            code.append("answers.add(" + (isKept ? step.group(1) : step.group(2)) + ");\n");
        }
        return compiled(code.append("return answers; } }\n").toString()).get();
    }

    @SuppressWarnings("unchecked")
    private static Supplier<List<Object>> compiled(String code) throws Exception {
        Path directory = Files.createTempDirectory("readme");
        Path source = Files.writeString(directory.resolve("Example.java"), code);
        int exit = ToolProvider.getSystemJavaCompiler().run(null, null, null, "-nowarn", "-d", directory.toString(),
                "-cp", System.getProperty("java.class.path"), source.toString());
        CHECK.due("javac of its example", exit, 0);
        try (URLClassLoader loader = new URLClassLoader(new URL[] {directory.toUri().toURL()})) {
            return (Supplier<List<Object>>) loader.loadClass("Example").getConstructor().newInstance();
        } finally {
            Files.deleteIfExists(directory.resolve("Example.class"));
            Files.deleteIfExists(source);
            Files.deleteIfExists(directory);
        }
    }

    private static Set<String> found(String pattern, String text) {
        return Pattern.compile(pattern).matcher(text).results().map(match -> match.group(1))
                .collect(Collectors.toCollection(TreeSet::new));
    }

    private static Set<String> methods() {
        return Stream.of(LinkShaper.class.getDeclaredMethods()).filter(method -> Modifier.isPublic(method.getModifiers()))
                .map(method -> method.getName()).collect(Collectors.toCollection(TreeSet::new));
    }

    private static Set<String> testsThatAreThere() throws IOException {
        try (Stream<Path> files = Files.list(TESTS)) {
            return files.map(file -> file.getFileName().toString()).filter(name -> name.endsWith("Test.java"))
                    .map(name -> name.replace(".java", "")).collect(Collectors.toCollection(TreeSet::new));
        }
    }
}

import java.io.IOException;
import java.lang.reflect.Method;
import java.net.URL;
import java.net.URLClassLoader;
import java.nio.file.DirectoryStream;
import java.nio.file.Files;
import java.nio.file.Path;
import java.util.ArrayList;
import java.util.List;
import java.util.Map;
import java.util.Set;
import java.util.TreeSet;
import java.util.regex.Matcher;
import java.util.regex.Pattern;
import javax.tools.ToolProvider;

/** What README.md says is so; to be run from the project's root. */
public final class ReadmeTest {
    private static final Path BUILD = Path.of("build", "readme");
    private static final Pattern ANSWERED = Pattern.compile("\\w+ (\\w+) = yard\\.(.*); +// (\\S+): .+");

    public static void main(String[] args) throws IOException, ReflectiveOperationException {
        String page = Files.readString(Path.of("README.md"));
        exampleAnswers(page);
        namesEachCall(page);
        namesEachTest(page);
        Check.end();
    }

    private static void exampleAnswers(String page) throws IOException, ReflectiveOperationException {
        List<String> lines = example(page);
        List<Matcher> answered = new ArrayList<>();
        for (String line : lines) {
            Matcher matcher = ANSWERED.matcher(line);
            if (matcher.matches()) {
                answered.add(matcher);
            }
        }
        Check.is("lines of the example that tell no answer", lines.size() - answered.size(), 1);
        Map<?, ?> answers = run(lines, answered);
        for (Matcher line : answered) {
            Check.same("README.md: " + line.group(2), String.valueOf(answers.get(line.group(1))), line.group(3));
        }
    }

    private static List<String> example(String page) {
        int start = page.indexOf("```java\n") + "```java\n".length();
        return page.substring(start, page.indexOf("```", start)).lines().toList();
    }

    private static Map<?, ?> run(List<String> lines, List<Matcher> answered)
            throws IOException, ReflectiveOperationException {
        StringBuilder source = new StringBuilder("public final class Example {\n");
        source.append("public static java.util.Map<String, Object> answers() {\n");
        for (String line : lines) {
            source.append(line).append('\n');
        }
        source.append("java.util.Map<String, Object> answers = new java.util.HashMap<>();\n");
        for (Matcher line : answered) {
            String name = line.group(1);
            source.append("answers.put(\"").append(name).append("\", ").append(name).append(");\n");
        }
        source.append("return answers;\n}\n}\n");
        Path file = Files.createDirectories(BUILD).resolve("Example.java");
        Files.writeString(file, source);
        int failed = ToolProvider.getSystemJavaCompiler().run(null, null, null,
            "-cp", System.getProperty("java.class.path"), "-d", BUILD.toString(), file.toString());
        Check.is("javac of the example", failed, 0);
        try (URLClassLoader loader = new URLClassLoader(new URL[] {BUILD.toUri().toURL()})) {
            return (Map<?, ?>) loader.loadClass("Example").getMethod("answers").invoke(null);
        }
    }

    /** The names that stand in front of a bracket at the beginnings of the rows of its table. */
    private static void namesEachCall(String page) {
        Set<String> due = new TreeSet<>(Set.of("new HayThieves"));
        for (Method method : HayThieves.class.getMethods()) {
            if (method.getDeclaringClass() == HayThieves.class) {
                due.add(method.getName());
            }
        }
        Check.same("the calls in README.md", firsts(page, "\\| `([\\w ]+)\\(.*"), due);
    }

    private static void namesEachTest(String page) throws IOException {
        Set<String> due = new TreeSet<>();
        try (DirectoryStream<Path> files = Files.newDirectoryStream(Path.of("src/test/java"), "*Test.java")) {
            for (Path file : files) {
                due.add(file.getFileName().toString().replace(".java", ""));
            }
        }
        Check.same("the tests in README.md", firsts(page, "\\| (\\w+Test) \\|.*"), due);
    }

    private static Set<String> firsts(String page, String row) {
        Set<String> found = new TreeSet<>();
        Pattern pattern = Pattern.compile(row);
        for (String line : page.split("\n")) {
            Matcher matcher = pattern.matcher(line);
            if (matcher.matches()) {
                found.add(matcher.group(1));
            }
        }
        return found;
    }
}

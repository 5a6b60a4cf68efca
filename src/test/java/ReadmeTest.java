import java.io.IOException;
import java.lang.reflect.Method;
import java.lang.reflect.Modifier;
import java.net.URL;
import java.net.URLClassLoader;
import java.nio.file.DirectoryStream;
import java.nio.file.Files;
import java.nio.file.Path;
import java.util.ArrayList;
import java.util.List;
import java.util.Set;
import java.util.TreeSet;
import java.util.regex.Matcher;
import java.util.regex.Pattern;

/**
 * Runs the examples of README.md as they stand there: what the comment behind a call begins with is
 * the answer that is due. .ci/run tells where the project is.
 */
public final class ReadmeTest {
    private static final Path PROJECT = Path.of(System.getProperty("project", "."));
    private static final String NEW_OBJECT = "SerialBus bus = new SerialBus();";
    private static final Pattern CALL =
            Pattern.compile("(?:int (\\w+) = )?(bus\\.(\\w+)\\(.*\\));(?:\\s+// (.*))?");
    private static final Pattern ANSWER = Pattern.compile("throws (\\w+)\\b.*|(-?\\d+)\\b.*");
    private static final Set<String> NOTHING_IS_ANSWERED = Set.of("reset", "talk", "time");

    private static final List<String> program = new ArrayList<>();
    private static final List<String> calls = new ArrayList<>();
    private static final List<String> due = new ArrayList<>();
    private static final Set<String> shown = new TreeSet<>();

    public static void main(String[] args) throws Exception {
        List<String> readme = Files.readAllLines(PROJECT.resolve("README.md"));
        takeExamples(readme);
        everyCallAnswersAsIsSaid();
        everyMethodIsShown();
        everyTestIsNamed(String.join("\n", readme));
        Due.finish();
    }

    private static void takeExamples(List<String> readme) {
        boolean inside = false;
        for (String line : readme) {
            if (line.equals("```java")) {
                inside = true;
                program.add("{");
            } else if (line.equals("```") && inside) {
                inside = false;
                program.add("}");
            } else if (inside) {
                takeLine(line);
            }
        }
    }

    private static void takeLine(String line) {
        Matcher call = CALL.matcher(line);
        if (line.equals(NEW_OBJECT)) {
            program.add(line);
        } else if (call.matches()) {
            calls.add(line);
            due.add(dueAnswer(call.group(3), call.group(4)));
            shown.add(call.group(3));
            program.add(statement(call.group(1), call.group(2), call.group(3)));
        } else {
            Due.is("README.md: " + line, "no call of the bus", "a call of the bus");
        }
    }

    private static String dueAnswer(String method, String comment) {
        Matcher answer = ANSWER.matcher(comment == null ? "" : comment);
        if (!answer.matches()) {
            return NOTHING_IS_ANSWERED.contains(method) ? "nothing" : "not said";
        }
        return answer.group(1) != null ? answer.group(1) : answer.group(2);
    }

    private static String statement(String variable, String call, String method) {
        if (variable != null) {
            return "int " + variable + " = " + call + "; answers.add(\"\" + " + variable + ");";
        }
        String made = NOTHING_IS_ANSWERED.contains(method)
                ? call + "; answers.add(\"nothing\");"
                : "answers.add(\"\" + " + call + ");";
        return "try { " + made + " } catch (RuntimeException e) {"
                + " answers.add(e.getClass().getSimpleName()); }";
    }

    private static void everyCallAnswersAsIsSaid() throws Exception {
        List<String> answers = answersOfProgram();
        Due.is("README.md: calls that were made", answers.size(), calls.size());
        for (int i = 0; i < answers.size(); i++) {
            Due.is("README.md: " + calls.get(i), answers.get(i), due.get(i));
        }
    }

    private static List<String> answersOfProgram() throws Exception {
        Path folder = Files.createTempDirectory("readme");
        Path source = folder.resolve("Examples.java");
        try {
            Files.writeString(source, "public final class Examples {\n"
                    + "public static void run(java.util.List<String> answers) {\n"
                    + String.join("\n", program) + "\n}\n}\n");
            int failed = new ProcessBuilder("javac", "-cp", System.getProperty("java.class.path"),
                    "-d", folder.toString(), source.toString()).inheritIO().start().waitFor();
            Due.is("README.md: the examples compile", failed, 0);
            return failed == 0 ? run(folder) : List.of();
        } finally {
            Files.deleteIfExists(folder.resolve("Examples.class"));
            Files.delete(source);
            Files.delete(folder);
        }
    }

    private static List<String> run(Path folder) throws IOException, ReflectiveOperationException {
        List<String> answers = new ArrayList<>();
        URL[] place = {folder.toUri().toURL()};
        try (URLClassLoader loader = new URLClassLoader(place, ReadmeTest.class.getClassLoader())) {
            loader.loadClass("Examples").getMethod("run", List.class).invoke(null, answers);
        }
        return answers;
    }

    private static void everyMethodIsShown() {
        Set<String> face = new TreeSet<>();
        for (Method method : SerialBus.class.getDeclaredMethods()) {
            if (Modifier.isPublic(method.getModifiers())) {
                face.add(method.getName());
            }
        }
        Due.is("README.md: methods in the examples", shown, face);
    }

    private static void everyTestIsNamed(String readme) throws IOException {
        Path tests = PROJECT.resolve("src/test/java");
        try (DirectoryStream<Path> files = Files.newDirectoryStream(tests, "*Test.java")) {
            for (Path file : files) {
                String name = file.getFileName().toString().replace(".java", "");
                Due.is("README.md names " + name, readme.contains("`" + name + "`"), true);
            }
        }
    }
}

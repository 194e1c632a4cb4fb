import java.io.IOException;
import java.lang.reflect.Method;
import java.lang.reflect.Modifier;
import java.net.URL;
import java.net.URLClassLoader;
import java.nio.file.Files;
import java.nio.file.Path;
import java.util.regex.Matcher;
import java.util.regex.Pattern;
import javax.tools.ToolProvider;

/** README.md names every call of the face, and the example in it answers what stands behind its lines. */
public final class ReadmeTest {
    private static final Pattern ANSWER =
            Pattern.compile("^(int|long|boolean) (\\w+) = .*; +// (-?\\d+|true|false)\\b.*$");

    public static void main(String[] args) throws IOException, ReflectiveOperationException {
        Checks checks = new Checks("ReadmeTest");
        String page = Files.readString(Path.of("README.md"));
        for (Method method : TownTwins.class.getDeclaredMethods()) {
            if (Modifier.isPublic(method.getModifiers())) {
                checks.due("README.md names " + method.getName(), page.contains("`" + method.getName() + "`"), true);
            }
        }
        checks.due("README.md says how to run the tests", page.contains("`.ci/run`"), true);
        int start = page.indexOf("```java\n") + "```java\n".length();
        runExample(checks, page.substring(start, page.indexOf("```", start)));
        checks.end();
    }

    private static void runExample(Checks checks, String block) throws IOException, ReflectiveOperationException {
        StringBuilder program = new StringBuilder("public final class Example {\n");
        program.append("public static java.util.List<String> answers() {\n");
        program.append("java.util.List<String> answers = new java.util.ArrayList<>();\n").append(block);
        StringBuilder due = new StringBuilder();
        for (String line : block.split("\n")) {
            Matcher answer = ANSWER.matcher(line);
            boolean isCall = line.contains("= twins.");
            checks.due("an answer stands behind '" + line + "'", answer.matches(), isCall);
            if (answer.matches()) {
                program.append("answers.add(\"").append(answer.group(2)).append(" \" + ");
                program.append(answer.group(2)).append(");\n");
                due.append(answer.group(2)).append(' ').append(answer.group(3)).append('\n');
            }
        }
        program.append("return answers;\n}\n}\n");
        StringBuilder got = new StringBuilder();
        for (Object answer : answersOf(program.toString())) {
            got.append(answer).append('\n');
        }
        String[] want = due.toString().split("\n");
        String[] given = got.toString().split("\n");
        checks.due("answers of the example", given.length, want.length);
        for (int i = 0; i < Math.min(want.length, given.length); i++) {
            checks.due("the example's '" + given[i] + "' is '" + want[i] + "'", given[i].equals(want[i]), true);
        }
    }

    private static Iterable<?> answersOf(String program) throws IOException, ReflectiveOperationException {
        Path room = Files.createTempDirectory("readme");
        Path file = room.resolve("Example.java");
        Files.writeString(file, program);
        ToolProvider.getSystemJavaCompiler().run(null, null, null, "-d", room.toString(),
                "-cp", System.getProperty("java.class.path"), file.toString());
        try (URLClassLoader loader = new URLClassLoader(new URL[] {room.toUri().toURL()})) {
            return (Iterable<?>) loader.loadClass("Example").getMethod("answers").invoke(null);
        } finally {
            Files.deleteIfExists(room.resolve("Example.class"));
            Files.deleteIfExists(file);
            Files.deleteIfExists(room);
        }
    }
}

import java.io.IOException;
import java.lang.reflect.Method;
import java.lang.reflect.Modifier;
import java.net.URL;
import java.net.URLClassLoader;
import java.nio.file.DirectoryStream;
import java.nio.file.Files;
import java.nio.file.Path;
import java.util.ArrayList;
import java.util.List;
import java.util.regex.Matcher;
import java.util.regex.Pattern;
import javax.tools.ToolProvider;

/**
 * What README.md says is so: its example is compiled and run, and each answer must be the one that
 * its comment begins with; every call of the class and every file of the tests must be named.
 */
public final class ReadmeTest {
    private static final Pattern EXAMPLE = Pattern.compile("```java\n(.*?)```", Pattern.DOTALL);
    private static final Pattern ANSWERED = Pattern.compile("(.*);\\s*// (-?\\d+|true|false)(:.*)?");
    private static final Pattern TEST_NAMED = Pattern.compile("`(\\w+Test)`");
    private static final Check CHECK = new Check();

    public static void main(String[] args) throws Exception {
        CHECK.about("README.md");
        String readme = Files.readString(Path.of("README.md"));
        exampleHolds(readme);
        callsAreNamed(readme);
        testsAreNamed(readme);
        namedTestsAreThere(readme);
        CHECK.end();
    }

    private static void exampleHolds(String readme) throws Exception {
        Matcher example = EXAMPLE.matcher(readme);
        CHECK.due("has an example", example.find(), true);
        StringBuilder body = new StringBuilder();
        List<String> calls = new ArrayList<>();
        List<String> due = new ArrayList<>();
        for (String line : example.group(1).split("\n")) {
            Matcher answered = ANSWERED.matcher(line);
            if (answered.matches()) {
                calls.add(answered.group(1));
                due.add(answered.group(2));
                body.append("answers.add(String.valueOf(").append(answered.group(1)).append("));\n");
            } else {
                body.append(line).append('\n');
            }
        }
        List<?> got = answersOf(body);
        CHECK.due("answers in the example", !due.isEmpty() && got.size() == due.size(), true);
        for (int i = 0; i < got.size(); i++) {
            String told = calls.get(i) + " = " + got.get(i) + ", README.md says " + due.get(i) + ": alike";
            CHECK.due(told, due.get(i).equals(got.get(i)), true);
        }
    }

    private static List<?> answersOf(StringBuilder body) throws Exception {
        Path directory = Files.createTempDirectory("readme");
        Path source = directory.resolve("Example.java");
        Files.writeString(source, "public final class Example {\n"
                + "public static java.util.List<String> run() {\n"
                + "java.util.List<String> answers = new java.util.ArrayList<>();\n"
                + body + "return answers;\n}\n}\n");
        try {
            int exit = ToolProvider.getSystemJavaCompiler().run(null, null, null, "-cp",
                    System.getProperty("java.class.path"), "-d", directory.toString(), source.toString());
            CHECK.due("javac of the example", exit, 0);
            URL[] place = {directory.toUri().toURL()};
            try (URLClassLoader loader = new URLClassLoader(place)) {
                return (List<?>) loader.loadClass("Example").getMethod("run").invoke(null);
            }
        } finally {
            Files.deleteIfExists(source);
            Files.deleteIfExists(directory.resolve("Example.class"));
            Files.delete(directory);
        }
    }

    private static void callsAreNamed(String readme) {
        for (Method method : SealedTalks.class.getDeclaredMethods()) {
            if (Modifier.isPublic(method.getModifiers())) {
                CHECK.due("names " + method.getName(), readme.contains("`" + method.getName() + "`"), true);
            }
        }
    }

    private static void testsAreNamed(String readme) throws IOException {
        try (DirectoryStream<Path> files = Files.newDirectoryStream(Path.of("src/test/java"), "*.java")) {
            for (Path file : files) {
                String name = file.getFileName().toString().replace(".java", "");
                CHECK.due("names " + name, readme.contains("`" + name + "`"), true);
            }
        }
    }

    private static void namedTestsAreThere(String readme) {
        Matcher named = TEST_NAMED.matcher(readme);
        while (named.find()) {
            boolean there = Files.exists(Path.of("src/test/java", named.group(1) + ".java"));
            CHECK.due(named.group(1) + " is there", there, true);
        }
    }
}

import java.io.File;
import java.io.IOException;
import java.lang.reflect.Method;
import java.lang.reflect.Modifier;
import java.net.URL;
import java.net.URLClassLoader;
import java.nio.file.Files;
import java.nio.file.Path;
import java.util.ArrayList;
import java.util.List;
import java.util.regex.Matcher;
import java.util.regex.Pattern;
import javax.tools.ToolProvider;

/** README.md: its examples compile and answer what their comments say, and it names every call of the face. */
final class ReadmeTest {
    private static final Pattern BLOCK = Pattern.compile("(?s)```java\n(.*?)```");
    private static final Pattern ANSWERED =
        Pattern.compile("(x\\.\\w+\\(.*\\)); *// (-?[0-9.]+|true|false|throws \\w+)(: .*)?");
    private static final String HEAD = String.join("\n",
        "import java.util.*;",
        "import java.util.concurrent.Callable;",
        "public final class Examples {",
        "public static final List<String[]> ANSWERS = new ArrayList<>();",
        "static void answer(String call, String want, Callable<Object> body) {",
        "    String got;",
        "    try { got = String.valueOf(body.call()); }",
        "    catch (Exception thrown) { got = \"throws \" + thrown.getClass().getSimpleName(); }",
        "    ANSWERS.add(new String[] {call, got, want});",
        "}", "");

    public static void main(String[] args) throws Exception {
        String page = Files.readString(Path.of("README.md"));
        List<String> blocks = new ArrayList<>();
        for (Matcher matcher = BLOCK.matcher(page); matcher.find();) {
            blocks.add(matcher.group(1));
        }
        List<String[]> answers = answersOf(source(blocks));
        Checks.yes("README.md has many answers: " + answers.size(), answers.size() > 50);
        for (String[] answer : answers) {
            Checks.same("README.md: " + answer[0], answer[1], answer[2]);
        }
        for (Method method : ParallelRewriting.class.getDeclaredMethods()) {
            if (Modifier.isPublic(method.getModifiers())) {
                Checks.yes("README.md names " + method.getName(), page.contains("`" + method.getName() + "`"));
            }
        }
        Checks.finish();
    }

    /** A block that is a method stands beside the others, each of which becomes the body of a method. */
    private static String source(List<String> blocks) {
        StringBuilder source = new StringBuilder(HEAD);
        StringBuilder calls = new StringBuilder();
        for (String block : blocks) {
            if (block.startsWith("static ")) {
                source.append(block);
            } else {
                String name = "example" + calls.length();
                source.append("static void ").append(name).append("() {\n");
                block.lines().map(ReadmeTest::statement).forEach(line -> source.append(line).append('\n'));
                source.append("}\n");
                calls.append(name).append("();\n");
            }
        }
        return source.append("public static void run() {\n").append(calls).append("}\n}\n").toString();
    }

    private static String statement(String line) {
        Matcher matcher = ANSWERED.matcher(line);
        if (!matcher.matches()) {
            return line;
        }
        String call = matcher.group(1);
        String want = matcher.group(2);
        // some calls that throw have no value
        String body = want.startsWith("throws ") ? "{ " + call + "; return \"nothing\"; }" : call;
        return "answer(\"" + call.replace("\"", "\\\"") + "\", \"" + want + "\", () -> " + body + ");";
    }

    private static List<String[]> answersOf(String source) throws Exception {
        Path place = Files.createTempDirectory("readme");
        try {
            Path file = place.resolve("Examples.java");
            Files.writeString(file, source);
            int failed = ToolProvider.getSystemJavaCompiler().run(null, null, null, "-cp",
                    System.getProperty("java.class.path"), "-d", place.toString(), file.toString());
            Checks.same("README.md, compiled", failed, 0);
            return failed == 0 ? run(place) : List.of();
        } finally {
            remove(place);
        }
    }

    private static List<String[]> run(Path place) throws Exception {
        List<String[]> answers = new ArrayList<>();
        try (URLClassLoader loader = new URLClassLoader(new URL[] {place.toUri().toURL()})) {
            Class<?> examples = loader.loadClass("Examples");
            examples.getMethod("run").invoke(null);
            for (Object answer : (List<?>) examples.getField("ANSWERS").get(null)) {
                answers.add((String[]) answer);
            }
        }
        return answers;
    }

    private static void remove(Path place) throws IOException {
        for (File file : place.toFile().listFiles()) {
            Files.delete(file.toPath());
        }
        Files.delete(place);
    }
}

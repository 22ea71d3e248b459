import java.net.URL;
import java.net.URLClassLoader;
import java.nio.file.Files;
import java.nio.file.Path;
import java.util.ArrayList;
import java.util.List;
import java.util.regex.Matcher;
import java.util.regex.Pattern;
import javax.tools.ToolProvider;

/** The example of README.md: it compiles, and its calls answer what stands behind them. */
public final class ReadmeTest {
    private static final Pattern ANSWERED =
            Pattern.compile("(m\\..*);\\s*// (true|false|-?\\d+):.*");
    private static final String NAME = "ReadmeExample";

    public static void main(String[] args) throws Exception {
        StringBuilder source = new StringBuilder("public final class " + NAME + " {\n"
                + "public static void run(java.util.List<Object> answers) {\n");
        List<String> calls = new ArrayList<>();
        List<String> due = new ArrayList<>();
        for (String line : example()) {
            Matcher answered = ANSWERED.matcher(line);
            if (answered.matches()) {
                calls.add(answered.group(1));
                due.add(answered.group(2));
                source.append("answers.add(").append(answered.group(1)).append(");\n");
            } else {
                source.append(line).append('\n');
            }
        }
        source.append("}\n}\n");
        Expect.same("calls with an answer", true, calls.size() >= 10);
        List<Object> got = answersOf(source.toString());
        for (int i = 0; i < calls.size(); i++) {
            Object answer = i < got.size() ? String.valueOf(got.get(i)) : "nothing";
            Expect.same(calls.get(i), due.get(i), answer);
        }
        Expect.close();
    }

    private static List<String> example() throws Exception {
        List<String> all = Files.readAllLines(Path.of("README.md"));
        int first = all.indexOf("```java") + 1;
        int end = first + all.subList(first, all.size()).indexOf("```");
        return all.subList(first, end);
    }

    private static List<Object> answersOf(String source) throws Exception {
        Path place = Files.createTempDirectory("readme");
        Path file = place.resolve(NAME + ".java");
        Path made = place.resolve(NAME + ".class");
        List<Object> answers = new ArrayList<>();
        try {
            Files.writeString(file, source);
            int exit = ToolProvider.getSystemJavaCompiler().run(null, null, null,
                    "-cp", System.getProperty("java.class.path"), "-d", place.toString(),
                    file.toString());
            Expect.same("exit code of the compiler", 0, exit);
            if (exit == 0) {
                call(place, answers);
            }
        } finally {
            Files.deleteIfExists(made);
            Files.deleteIfExists(file);
            Files.delete(place);
        }
        return answers;
    }

    private static void call(Path place, List<Object> answers) throws Exception {
        try (URLClassLoader loader = new URLClassLoader(new URL[] {place.toUri().toURL()})) {
            loader.loadClass(NAME).getMethod("run", List.class).invoke(null, answers);
        }
    }
}

import java.io.IOException;
import java.lang.reflect.InvocationTargetException;
import java.lang.reflect.Method;
import java.lang.reflect.Modifier;
import java.nio.charset.StandardCharsets;
import java.nio.file.Files;
import java.nio.file.Path;
import java.util.List;
import java.util.regex.Matcher;
import java.util.regex.Pattern;
import java.util.stream.Stream;

/** README.md tells the use of the class: its calls answer as it says, and it names all calls and tests. */
public final class ReadmeTest {
    private static final Pattern CALL = Pattern.compile("x\\.(\\w+)\\(([^)]*)\\);\\s*(?://\\s*(-?\\d+|true|false)\\b.*|//.*)");

    public static void main(String[] args) throws IOException, ReflectiveOperationException {
        Path readme = Path.of("README.md");
        List<String> lines = Files.readAllLines(readme, StandardCharsets.UTF_8);
        examples(lines);
        String all = String.join("\n", lines);
        names(all);
        tests(all);
        Check.finish();
    }

    private static void examples(List<String> lines) throws ReflectiveOperationException {
        SchemeEleven x = null;
        boolean inside = false;
        int calls = 0;
        for (String line : lines) {
            if (line.startsWith("```")) {
                inside = line.equals("```java");
            } else if (inside && line.equals("SchemeEleven x = new SchemeEleven();")) {
                x = new SchemeEleven();
            } else if (inside) {
                Matcher call = CALL.matcher(line);
                boolean told = x != null && call.matches();
                Check.due("a line of README.md that is a call: " + line, told, true);
                if (told) {
                    ask(x, call);
                    calls++;
                }
            }
        }
        Check.due("calls told by README.md", calls >= 30, true);
    }

    private static void ask(SchemeEleven x, Matcher call) throws ReflectiveOperationException {
        String[] given = call.group(2).isEmpty() ? new String[0] : call.group(2).split(",\\s*");
        Object[] values = new Object[given.length];
        Class<?>[] types = new Class<?>[given.length];
        for (int i = 0; i < given.length; i++) {
            values[i] = Integer.decode(given[i]);
            types[i] = int.class;
        }
        Object answer = answerOf(x, SchemeEleven.class.getMethod(call.group(1), types), values);
        String due = call.group(3);
        Check.due("README.md's " + call.group(), String.valueOf(answer), due == null ? "null" : due);
    }

    private static Object answerOf(SchemeEleven x, Method method, Object[] values) throws IllegalAccessException {
        try {
            return method.invoke(x, values);
        } catch (InvocationTargetException thrown) {
            return thrown.getCause();
        }
    }

    private static void names(String all) {
        int calls = 0;
        for (Method method : SchemeEleven.class.getDeclaredMethods()) {
            if (Modifier.isPublic(method.getModifiers())) {
                calls++;
                Check.due("README.md's table names " + method.getName(), all.contains("`" + method.getName() + "("), true);
            }
        }
        Check.due("calls of the face", calls, 18);
    }

    private static void tests(String all) throws IOException {
        try (Stream<Path> files = Files.list(Path.of("src/test/java"))) {
            files.map(file -> file.getFileName().toString())
                .filter(name -> name.endsWith("Test.java"))
                .map(name -> name.substring(0, name.length() - ".java".length()))
                .forEach(name -> Check.due("README.md names " + name, all.contains("`" + name + "`"), true));
        }
        Check.due("README.md tells how to run the tests", all.contains("\n.ci/run\n"), true);
    }
}

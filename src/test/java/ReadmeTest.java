import java.io.IOException;
import java.lang.reflect.Method;
import java.nio.file.DirectoryStream;
import java.nio.file.Files;
import java.nio.file.Path;
import java.util.regex.Matcher;
import java.util.regex.Pattern;

/** README.md: its example answers what it says, and it names every call and every test. */
public final class ReadmeTest {
    private static final Check check = new Check("ReadmeTest");
    private static final Pattern EXAMPLE = Pattern.compile("(?s)```java\n(.*?)```");
    private static final Pattern CALL = Pattern.compile("x\\.(\\w+)\\(([^)]*)\\); +// (-?\\d+)(?: \\((\\w+)\\))?(?::.*)?");

    public static void main(String[] args) throws IOException, ReflectiveOperationException {
        String page = Files.readString(Path.of("README.md"));
        Matcher example = EXAMPLE.matcher(page);
        check.holds("there is an example", example.find());
        answers(example.group(1));
        callsAreNamed(page);
        testsAreNamed(page);
        check.end();
    }

    private static void answers(String example) throws ReflectiveOperationException {
        DigestCaches x = null;
        for (String line : example.split("\n")) {
            Matcher call = CALL.matcher(line);
            if (line.equals("DigestCaches x = new DigestCaches();")) {
                x = new DigestCaches();
            } else if (call.matches()) {
                long due = Long.parseLong(call.group(3));
                check.due(line, answer(x, call.group(1), call.group(2).split(", *")), due);
                check.holds("the answer's name: " + line, call.group(4) == null
                    || DigestCaches.class.getField(call.group(4)).getInt(null) == due);
            } else {
                check.holds("a line that is tested: " + line, line.isBlank());
            }
        }
    }

    private static long answer(DigestCaches x, String name, String[] written) throws ReflectiveOperationException {
        Method method = method(name);
        Object[] arguments = new Object[method.getParameterCount()];
        for (int i = 0; i < arguments.length; i++) {
            arguments[i] = written[i].startsWith("'") ? (int) written[i].charAt(1) : Integer.valueOf(written[i]);
        }
        return ((Number) method.invoke(x, arguments)).longValue();
    }

    private static Method method(String name) throws NoSuchMethodException {
        for (Method method : DigestCaches.class.getDeclaredMethods()) {
            if (method.getName().equals(name)) {
                return method;
            }
        }
        throw new NoSuchMethodException(name);
    }

    private static void callsAreNamed(String page) {
        String calls = page.substring(page.indexOf("### The calls"), page.indexOf("## Tests"));
        for (Method method : DigestCaches.class.getMethods()) {
            if (method.getDeclaringClass() == DigestCaches.class) {
                check.holds("the page names " + method.getName(), calls.contains("`" + method.getName() + "`"));
            }
        }
    }

    private static void testsAreNamed(String page) throws IOException {
        int tests = 0;
        try (DirectoryStream<Path> files = Files.newDirectoryStream(Path.of("src/test/java"), "*Test.java")) {
            for (Path file : files) {
                String name = file.getFileName().toString().replace(".java", "");
                check.holds("the page names " + name, page.contains("\n| " + name + " | "));
                tests++;
            }
        }
        check.due("the page names no other test", page.split("\n\\| \\w+Test \\| ").length - 1, tests);
    }
}

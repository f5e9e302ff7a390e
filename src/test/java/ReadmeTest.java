import java.io.IOException;
import java.lang.reflect.InvocationTargetException;
import java.lang.reflect.Method;
import java.lang.reflect.Modifier;
import java.nio.file.Files;
import java.nio.file.Path;
import java.util.HashMap;
import java.util.List;
import java.util.Map;
import java.util.regex.Matcher;
import java.util.regex.Pattern;

/** README.md: its examples are run, on one object, and it names every call of the class and every test. */
final class ReadmeTest {
    private static final Pattern CALL = Pattern.compile(
            "(?:(?:(?:int|long|double) )?(\\w+) = )?book\\.(\\w+)\\(([^)]*)\\);(?: +// (throws \\w+|-?[0-9.]+)\\b.*)?");

    private final WireBook book = new WireBook();
    private final Map<String, Object> named = new HashMap<>();
    private int calls = 0;

    public static void main(String[] args) throws IOException, ReflectiveOperationException {
        String readme = Files.readString(Path.of("README.md"));
        new ReadmeTest().examples(readme);
        namesCalls(readme);
        namesTests(readme);
        Check.end();
    }

    private void examples(String readme) throws ReflectiveOperationException {
        Matcher blocks = Pattern.compile("(?s)```java\n(.*?)```").matcher(readme);
        while (blocks.find()) {
            for (String line : blocks.group(1).split("\n")) {
                example(line);
            }
        }
        Check.holds("README.md has examples", calls >= 28);
    }

    private void example(String line) throws ReflectiveOperationException {
        Matcher call = CALL.matcher(line);
        if (!call.matches()) {
            Check.holds("README.md has an example that is no call: " + line,
                    line.equals("WireBook book = new WireBook();"));
            return;
        }
        calls++;
        Object got = answer(method(call.group(2)), call.group(3));
        if (call.group(1) != null) {
            named.put(call.group(1), got);
            Check.holds("README.md tells " + line + ", but it answers " + got, got.toString().equals(call.group(4)));
        }
    }

    private Object answer(Method method, String arguments) throws ReflectiveOperationException {
        Object[] with = new Object[method.getParameterCount()];
        String[] texts = arguments.split(", ");
        for (int at = 0; at < with.length; at++) {
            with[at] = named.containsKey(texts[at]) ? named.get(texts[at]) : Integer.valueOf(texts[at]);
        }
        try {
            return method.invoke(book, with);
        } catch (InvocationTargetException thrown) {
            return "throws " + thrown.getCause().getClass().getSimpleName();
        }
    }

    private static Method method(String name) throws NoSuchMethodException {
        for (Method method : WireBook.class.getDeclaredMethods()) {
            if (method.getName().equals(name) && Modifier.isPublic(method.getModifiers())) {
                return method;
            }
        }
        throw new NoSuchMethodException(name);
    }

    private static void namesCalls(String readme) {
        for (Method method : WireBook.class.getDeclaredMethods()) {
            if (Modifier.isPublic(method.getModifiers())) {
                Check.holds("README.md names " + method.getName(), readme.contains("`" + method.getName() + "`"));
            }
        }
    }

    /** How to run the tests: the command, and each test that there is. */
    private static void namesTests(String readme) throws IOException {
        Check.holds("README.md names .ci/run", readme.contains("\n    .ci/run\n"));
        Check.holds(".ci/run can be run", Files.isExecutable(Path.of(".ci/run")));
        try (var files = Files.list(Path.of("src/test/java"))) {
            List<String> tests = files.map(file -> file.getFileName().toString().replace(".java", ""))
                    .filter(name -> name.endsWith("Test")).toList();
            for (String test : tests) {
                Check.holds("README.md names " + test, readme.contains("`" + test + "`"));
            }
        }
        Matcher rows = Pattern.compile("`(\\w+Test)`").matcher(readme);
        while (rows.find()) {
            Check.holds(rows.group(1) + " is there", Files.exists(Path.of("src/test/java", rows.group(1) + ".java")));
        }
    }
}

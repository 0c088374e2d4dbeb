import java.io.IOException;
import java.lang.reflect.InvocationTargetException;
import java.lang.reflect.Method;
import java.nio.file.Files;
import java.nio.file.Path;
import java.util.Set;
import java.util.TreeSet;
import java.util.regex.Matcher;
import java.util.regex.Pattern;

/**
 * What README.md says: each call of its examples answers the number with which its comment begins, and no method
 * of the class is left out.
 */
public final class ReadmeTest {
    private static final Pattern CALL = Pattern.compile(" *console\\.(\\w+)\\((.*?)\\); *(?:// (-?\\d+)?.*)?");
    private static final String NEW_OBJECT = "SharedConsole console = new SharedConsole();";

    private SharedConsole console = null;
    private int answersTold = 0;

    private ReadmeTest() { }

    private static Method methodOf(String name) {
        for (Method method : SharedConsole.class.getMethods()) {
            if (method.getName().equals(name)) {
                return method;
            }
        }
        throw new AssertionError("no method " + name);
    }

    private static Object valueOf(String text) throws ReflectiveOperationException {
        if (text.equals("true") || text.equals("false")) {
            return Boolean.valueOf(text);
        }
        String constant = "SharedConsole.";
        if (text.startsWith(constant)) {
            return SharedConsole.class.getField(text.substring(constant.length())).get(null);
        }
        return Integer.decode(text);
    }

    private Object call(String name, String list) throws ReflectiveOperationException {
        String[] texts = list.isEmpty() ? new String[0] : list.split(", *");
        Object[] arguments = new Object[texts.length];
        for (int i = 0; i < texts.length; i++) {
            arguments[i] = valueOf(texts[i]);
        }
        try {
            return methodOf(name).invoke(console, arguments);
        } catch (InvocationTargetException e) {
            return e.getCause().getClass().getSimpleName();
        }
    }

    private void follow(String line) throws ReflectiveOperationException {
        Matcher call = CALL.matcher(line);
        if (line.equals(NEW_OBJECT)) {
            console = new SharedConsole();
        } else if (call.matches()) {
            Object answer = call(call.group(1), call.group(2));
            if (call.group(3) != null) {
                answersTold++;
                Check.due(line, answer, Integer.valueOf(call.group(3)));
            } else {
                Check.due(line + " is no error", (Integer) answer >= 0, true);
            }
        } else {
            Check.due("a line of an example that is no call: " + line, line.isBlank() || line.startsWith("//"), true);
        }
    }

    private static void everyMethodIsNamed(String readme) {
        Set<String> missing = new TreeSet<>();
        for (Method method : SharedConsole.class.getDeclaredMethods()) {
            String name = method.getName();
            boolean isOfTheFace = java.lang.reflect.Modifier.isPublic(method.getModifiers());
            if (isOfTheFace && !readme.contains("`" + name + "`")) {
                missing.add(name);
            }
        }
        Check.due("methods that README.md does not name", missing, Set.of());
    }

    private static void everyTestIsNamed(String readme) throws IOException {
        try (java.util.stream.Stream<Path> files = Files.list(Path.of("src/test/java"))) {
            for (Path file : files.sorted().toList()) {
                String name = file.getFileName().toString().replace(".java", "");
                if (name.endsWith("Test")) {
                    Check.due("README.md names " + name, readme.contains("`" + name + "`"), true);
                }
            }
        }
    }

    private void check() throws IOException, ReflectiveOperationException {
        String readme = Files.readString(Path.of("README.md"));
        boolean inExample = false;
        for (String line : readme.split("\n")) {
            if (line.startsWith("```")) {
                inExample = line.equals("```java");
            } else if (inExample) {
                follow(line);
            }
        }
        Check.due("answers were told", answersTold >= 10, true);
        everyMethodIsNamed(readme);
        everyTestIsNamed(readme);
        Check.end();
    }

    public static void main(String[] arguments) throws IOException, ReflectiveOperationException {
        new ReadmeTest().check();
    }
}

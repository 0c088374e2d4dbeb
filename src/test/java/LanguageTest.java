import java.io.IOException;
import java.lang.reflect.Field;
import java.lang.reflect.Modifier;
import java.nio.file.Files;
import java.nio.file.Path;
import java.util.List;
import java.util.Set;
import java.util.TreeSet;
import java.util.regex.Matcher;
import java.util.regex.Pattern;

/** The rules of ../shared/LANGUAGE.md that can be seen in the text of the class. */
public final class LanguageTest {
    private static final String[] NEVER = {"import ", "package ", "->", "::", "static {", "try ", "catch", "finally",
        "synchronized", "assert ", "@Override", "@Suppress", "System.", "Exact(", "equals(", "hashCode", "toString(", "double",
        "instanceof"};

    private static final Set<String> LIBRARY = Set.of("java.lang.Object.new", "java.lang.IndexOutOfBoundsException.new",
        "java.lang.Math.floorMod(int,int)", "java.lang.Math.max(int,int)", "java.lang.Math.min(int,int)",
        "java.lang.String.charAt(int)", "java.lang.String.length()");
    private static final int MOST_CALLS_DEEP = 8, MOST_FIELDS = 20;

    private LanguageTest() { }

    private static int longestMethod(List<String> lines) {
        int longest = 0;
        int start = -1;
        String indent = "";
        for (int i = 0; i < lines.size(); i++) {
            String line = lines.get(i);
            if (start < 0 && line.matches(" +(public |private |static )*\\w+(\\[\\])* ?\\w*\\(.*\\{")
                    && !line.matches(" +(if|for|while|switch|return|else)\\b.*")) {
                start = i;
                indent = line.substring(0, line.length() - line.stripLeading().length());
            } else if (start >= 0 && line.equals(indent + "}")) {
                longest = Math.max(longest, i - start + 1);
                start = -1;
            }
        }
        return longest;
    }

    private static int mostParameters(String source) {
        int most = 0;
        Matcher matcher = Pattern.compile("\\n +(?:public |private |static )*\\w+(?:\\[\\])* \\w+\\(([^()]*)\\)[^;{]*\\{").matcher(source);
        while (matcher.find()) {
            most = Math.max(most, matcher.group(1).split(",").length);
        }
        return most;
    }

    private static void checkCalls(Path path) throws IOException {
        CallGraph graph = new CallGraph(path);
        Set<String> library = new TreeSet<>(graph.library());
        Check.due("calls of the library were seen", library.contains("java.lang.Math.floorMod(int,int)"), true);
        library.removeAll(LIBRARY);
        Check.due("other calls of the library", library, Set.of());
        Check.due("recursion", graph.hasRecursion(), false);
        Check.due("calls were seen", graph.deepest() > 3, true);
        Check.due("calls deeper than eight", graph.deepest() > MOST_CALLS_DEEP, false);
    }

    private static void checkFields(Class<?> owner) {
        int fields = 0;
        for (Field field : owner.getDeclaredFields()) {
            boolean isStatic = Modifier.isStatic(field.getModifiers());
            fields += isStatic ? 0 : 1;
            Check.due("may change: " + field, isStatic && !Modifier.isFinal(field.getModifiers()), false);
        }
        Check.due("at most twenty fields of " + owner, fields <= MOST_FIELDS, true);
    }

    public static void main(String[] arguments) throws IOException {
        Path path = Path.of(arguments[0]);
        String source = Files.readString(path);
        List<String> lines = Files.readAllLines(path);
        for (String word : NEVER) {
            Check.due("\"" + word + "\" in the class", source.contains(word), false);
        }
        int classes = 0;
        boolean plainSigns = true;
        for (String line : lines) {
            classes += line.matches(".*\\bclass \\w+ \\{") ? 1 : 0;
            plainSigns &= line.chars().allMatch(c -> c >= 32 && c < 127);
            boolean makes = line.contains("new ") && !line.strip().startsWith("*") && !line.strip().startsWith("/**");
            boolean once = line.contains("throw new IndexOutOfBoundsException()") || line.contains(" final ")
                || line.matches(" +\\w+\\[i\\] = new \\w+\\(\\);");
            Check.due("makes no object but in a field: " + line.strip(), !makes || once, true);
        }
        Check.due("at most twelve classes", classes <= 12, true);
        Check.due("plain signs", plainSigns, true);
        Check.due("methods were seen", longestMethod(lines) > 10, true);
        Check.due("methods of at most sixty lines", longestMethod(lines) <= 60, true);
        Check.due("parameters were seen", mostParameters(source) >= 5, true);
        Check.due("at most seven parameters", mostParameters(source) <= 7, true);
        checkCalls(path);
        checkFields(SharedConsole.class);
        for (Class<?> inside : SharedConsole.class.getDeclaredClasses()) {
            checkFields(inside);
        }
        Check.end();
    }
}

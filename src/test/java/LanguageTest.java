import java.io.IOException;
import java.nio.file.Files;
import java.nio.file.Path;
import java.util.List;
import java.util.regex.Matcher;
import java.util.regex.Pattern;

/** The rules of ../shared/LANGUAGE.md that can be seen in the text of the class. */
public final class LanguageTest {
    private static final String[] NEVER = {"import ", "package ", "->", "::", "static {", "try ", "catch", "finally",
        "synchronized", "assert ", "@Override", "@Suppress", "System.", "Exact(", "equals(", "hashCode", "toString(", "double",
        "instanceof"};

    private LanguageTest() { }

    private static int longestMethod(List<String> lines) {
        int longest = 0;
        int start = -1;
        String indent = "";
        for (int i = 0; i < lines.size(); i++) {
            String line = lines.get(i);
            if (start < 0 && line.matches(" +(public |private |static )*\\w+(\\[\\])* ?\\w*\\(.*\\{")
                    && !line.matches(" +(if|for|while|switch|return|else)\\b.*")) {
                start = i;
                indent = line.substring(0, line.length() - line.stripLeading().length());
            } else if (start >= 0 && line.equals(indent + "}")) {
                longest = Math.max(longest, i - start + 1);
                start = -1;
            }
        }
        return longest;
    }

    private static int mostParameters(String source) {
        int most = 0;
        Matcher matcher = Pattern.compile("\\n +(?:public |private |static )*\\w+(?:\\[\\])* \\w+\\(([^()]*)\\)[^;{]*\\{").matcher(source);
        while (matcher.find()) {
            most = Math.max(most, matcher.group(1).split(",").length);
        }
        return most;
    }

    public static void main(String[] arguments) throws IOException {
        Path path = Path.of(arguments[0]);
        String source = Files.readString(path);
        List<String> lines = Files.readAllLines(path);
        for (String word : NEVER) {
            Check.due("\"" + word + "\" in the class", source.contains(word), false);
        }
        int classes = 0;
        boolean plainSigns = true;
        for (String line : lines) {
            classes += line.matches(".*\\bclass \\w+ \\{") ? 1 : 0;
            plainSigns &= line.chars().allMatch(c -> c >= 32 && c < 127);
            boolean makes = line.contains("new ") && !line.strip().startsWith("*") && !line.strip().startsWith("/**");
            boolean once = line.contains("throw new IndexOutOfBoundsException()") || line.contains(" final ")
                || line.matches(" +\\w+\\[i\\] = new \\w+\\(\\);");
            Check.due("makes no object but in a field: " + line.strip(), !makes || once, true);
        }
        Check.due("at most twelve classes", classes <= 12, true);
        Check.due("plain signs", plainSigns, true);
        Check.due("methods were seen", longestMethod(lines) > 10, true);
        Check.due("methods of at most sixty lines", longestMethod(lines) <= 60, true);
        Check.due("parameters were seen", mostParameters(source) >= 5, true);
        Check.due("at most seven parameters", mostParameters(source) <= 7, true);
        Check.end();
    }
}

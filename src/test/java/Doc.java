import java.io.IOException;
import java.io.UncheckedIOException;
import java.nio.file.Files;
import java.nio.file.Path;
import java.util.BitSet;
import java.util.LinkedHashMap;
import java.util.Map;
import java.util.regex.Matcher;
import java.util.regex.Pattern;

/**
 * The document, whose sentences the tests quote. A quote that does not stand in it, one under which nothing
 * is checked, and a sentence that no test quotes are faults.
 */
final class Doc {
    private static final Path PLACE = Path.of("../shared/DOC.md");
    private static final Pattern TOPIC = Pattern.compile("([A-Z]+(?: [A-Z]+)*)(?: for load)?\\. ");
    private static final Pattern PROMISE = Pattern.compile("## Promise (\\d+):.*");
    private static final String GAP = " ... ";

    private final Map<String, StringBuilder> texts = new LinkedHashMap<>();
    private final Map<String, BitSet> quoted = new LinkedHashMap<>();

    Doc() {
        String part = null;
        for (String line : lines()) {
            part = partOf(line, part);
            boolean isText = part != null && !line.isBlank() && !line.startsWith("#") && !line.startsWith("`");
            if (isText) {
                texts.computeIfAbsent(part, p -> new StringBuilder()).append(withoutTopic(line)).append('\n');
                quoted.computeIfAbsent(part, p -> new BitSet());
            }
        }
    }

    private static Iterable<String> lines() {
        try {
            return Files.readAllLines(PLACE);
        } catch (IOException e) {
            throw new UncheckedIOException(e);
        }
    }

    /** A topic of the description bears the words with which it begins, a promise its number. */
    private static String partOf(String line, String before) {
        Matcher topic = TOPIC.matcher(line);
        Matcher promise = PROMISE.matcher(line);
        if (promise.matches()) {
            return promise.group(1);
        }
        if (topic.lookingAt()) {
            return topic.group(1);
        }
        if (line.startsWith("An object is used")) {
            return "USE";
        }
        boolean ends = line.startsWith("## ") || line.startsWith("The constants:");
        return ends ? null : before;
    }

    private static String withoutTopic(String line) {
        Matcher topic = TOPIC.matcher(line);
        return topic.lookingAt() ? line.substring(topic.end()) : line;
    }

    void says(int promise, String quote) {
        says(String.valueOf(promise), quote);
    }

    /** What is checked from here on is due because a part of the document says so; a gap may stand in the quote. */
    void says(String part, String quote) {
        Check.under(part + ": " + quote);
        String text = texts.getOrDefault(part, new StringBuilder()).toString();
        int start = -1;
        int end = 0;
        for (String piece : quote.split(Pattern.quote(GAP))) {
            int at = end < 0 ? -1 : text.indexOf(piece, end);
            start = start < 0 ? at : start;
            end = at < 0 ? -1 : at + piece.length();
        }
        if (end < 0) {
            Check.fault("the document does not say so");
        } else {
            quoted.get(part).set(start, end);
        }
    }

    void end() {
        Check.under("the document");
        Check.due("it has topics and promises", texts.size() >= 44 + 10, true);
        for (String part : texts.keySet()) {
            String text = texts.get(part).toString();
            StringBuilder left = new StringBuilder();
            for (int i = 0; i < text.length(); i++) {
                left.append(quoted.get(part).get(i) ? ' ' : text.charAt(i));
            }
            Check.due("no test quotes this of " + part, left.toString().strip(), "");
        }
    }
}

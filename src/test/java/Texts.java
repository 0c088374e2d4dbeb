import java.nio.charset.StandardCharsets;
import java.util.Arrays;

/** Ways to say in a test's words what the class takes and gives as numbers. */
final class Texts {
    private static final String KEYS = "abcdefghijklmnopqrstuvwxyz_/\r<#";

    private Texts() { }

    static int feed(SharedConsole x, String text) {
        byte[] bytes = text.getBytes(StandardCharsets.ISO_8859_1);
        byte[] padded = Arrays.copyOf(bytes, (bytes.length + 19) / 20 * 20);
        java.nio.ByteBuffer words = java.nio.ByteBuffer.wrap(padded);
        int answer = 0;
        while (words.hasRemaining()) {
            answer = x.feed(words.getInt(), words.getInt(), words.getInt(), words.getInt(), words.getInt());
        }
        return answer;
    }

    static int load(SharedConsole x, String text) {
        feed(x, text);
        return x.load(text.length());
    }

    static SharedConsole loaded(String text) {
        SharedConsole x = new SharedConsole();
        if (load(x, text) < 0) {
            throw new AssertionError("the text has an error at " + x.errorPosition());
        }
        return x;
    }

    /** Letters as themselves, '_' SPACE, '/' NEWLINE, '\r' RETURN, '<' BACK, '#' CLEAR. */
    static int keys(String keys) {
        int groups = 0;
        for (int i = 0; i < 6; i++) {
            groups = groups << 5 | (i < keys.length() ? KEYS.indexOf(keys.charAt(i)) + 1 : 0);
        }
        return groups;
    }

    static int type(SharedConsole x, int user, String keys) {
        int answer = 0;
        for (int i = 0; i < keys.length(); i += 6) {
            answer = x.type(user, keys(keys.substring(i, Math.min(i + 6, keys.length()))));
            if (answer < 0) {
                return answer;
            }
        }
        return answer;
    }

    private static char key(int symbol) {
        return symbol >= 1 && symbol <= KEYS.length() ? KEYS.charAt(symbol - 1) : '!';
    }

    /** The rows of the screen, with '|' between them, and the cursor's row and column behind a blank. */
    static String screen(SharedConsole x, int session, int position) {
        int width = x.screen(session, position, 0);
        int height = x.screen(session, position, 1);
        StringBuilder text = new StringBuilder();
        for (int row = 0; row < height; row++) {
            text.append(row == 0 ? "" : "|");
            for (int column = 0; column < width; column++) {
                text.append(key(x.at(session, position, row, column)));
            }
        }
        return text + " " + x.screen(session, position, 2) + "," + x.screen(session, position, 3);
    }

    static String screen(SharedConsole x, int session) {
        return screen(x, session, x.session(session, 2));
    }

    static String above(SharedConsole x, int session, int position, int line) {
        StringBuilder text = new StringBuilder();
        for (int column = 0; column < 16; column++) {
            text.append(key(x.above(session, position, line, column)));
        }
        return text.toString();
    }

    static String window(SharedConsole x, int user) {
        int width = x.user(user, 0);
        int height = x.user(user, 1);
        StringBuilder text = new StringBuilder();
        for (int row = 0; row < height; row++) {
            text.append(row == 0 ? "" : "|");
            for (int column = 0; column < width; column++) {
                text.append(key(x.shown(user, row, column)));
            }
        }
        return text.toString();
    }

    static String written(SharedConsole x, int user) {
        int length = x.write(user);
        return output(x, length);
    }

    static String output(SharedConsole x, int length) {
        StringBuilder text = new StringBuilder();
        for (int i = 0; i < length; i++) {
            text.append((char) x.outputAt(i));
        }
        return text.toString();
    }
}

import java.lang.reflect.InvocationTargetException;
import java.lang.reflect.Method;
import java.util.ArrayList;
import java.util.Arrays;
import java.util.HashMap;
import java.util.List;
import java.util.Map;

/** Long runs of calls on the class and on the model: each answer must be the same. */
public final class ModelTest {
    private static final int RUNS = 3000, CALLS = 512;
    private static final String[] CHANGES = {"attach", "detach", "goTo", "goLive", "replay", "lookBack", "window",
        "type", "request", "answer", "yield", "pass", "setSetting", "undo"};
    private static final String[] OTHERS = {"feed", "load", "errorPosition", "count", "undoCount", "named", "getSetting",
        "session", "event", "screen", "at", "above", "user", "shown", "cursorRow", "watchers", "rightSize", "narrowest",
        "whyNot", "grantedAt", "reachedAt", "behind", "firstShowing", "firstDifference", "fullness", "typedBy",
        "account", "write", "outputAt"};

    private static final Map<String, Method> OF_CLASS = new HashMap<>();
    private static final Map<String, Method> OF_MODEL = new HashMap<>();

    private final Numbers numbers;
    private final int run;
    private final SharedConsole real = new SharedConsole();
    private final Model model = new Model();
    private final List<String> log = new ArrayList<>();

    private ModelTest(int run) {
        this.run = run;
        numbers = new Numbers(run);
    }

    private static void collect(Class<?> from, Map<String, Method> to) {
        for (Method m : from.getDeclaredMethods()) {
            if (java.lang.reflect.Modifier.isPublic(m.getModifiers())) {
                to.put(m.getName(), m);
            }
        }
    }

    private static Object answer(Object on, Method method, Object[] arguments) {
        try {
            return method.invoke(on, arguments);
        } catch (InvocationTargetException e) {
            return "throws." + e.getCause().getClass().getSimpleName();
        } catch (IllegalAccessException e) {
            throw new AssertionError(e);
        }
    }

    /** No object is used for more calls than the document allows: later ones are left out. */
    private void call(String name, Object... arguments) {
        if (log.size() >= CALLS) {
            return;
        }
        Object want = answer(model, OF_MODEL.get(name), arguments);
        Object got = answer(real, OF_CLASS.get(name), arguments);
        String told = name + Arrays.toString(arguments);
        log.add(told + " " + got);
        boolean same = want.equals(got);
        if (!same && !Check.anyFailed()) {
            log.forEach(System.out::println);
        }
        Check.due("run " + run + ": " + told, got, want);
    }

    /** The same arguments, but now and then one number is as great or as small as a number can be, or near that. */
    private Object[] stretched(Object[] arguments) {
        if (arguments.length == 0 || !numbers.once(40)) {
            return arguments;
        }
        int which = numbers.below(arguments.length);
        if (arguments[which] instanceof Integer) {
            int near = numbers.below(3);
            arguments[which] = numbers.once(2) ? Integer.MAX_VALUE - near : Integer.MIN_VALUE + near;
        }
        return arguments;
    }

    // ---- what is asked for

    private int session() {
        return numbers.once(25) ? numbers.from(-1, 4) : numbers.below(Math.max(1, model.count(0)));
    }

    private int user() {
        return numbers.once(25) ? numbers.from(-1, 6) : numbers.below(Math.max(1, model.count(1)));
    }

    private int events(int session) {
        return session >= 0 && session < model.count(0) ? model.session(session, 2) : 0;
    }

    private int position(int session) {
        int events = events(session);
        if (numbers.once(20)) {
            return numbers.once(2) ? -1 : events + 1;
        }
        return numbers.once(3) ? Math.max(0, events - numbers.below(8)) : numbers.below(events + 1);
    }

    private int watched(int user) {
        return user >= 0 && user < model.count(1) ? model.user(user, 3) : 0;
    }

    private int symbols() {
        if (numbers.once(40)) {
            return numbers.once(2) ? numbers.below(Integer.MAX_VALUE) : -numbers.below(Integer.MAX_VALUE);
        }
        int style = run % 4;
        int groups = 0;
        int used = numbers.from(1, 6);
        for (int i = 0; i < 6; i++) {
            int symbol = numbers.from(1, 31);
            if (style == 1 && numbers.once(2)) {
                symbol = 28;
            } else if (style != 3 && numbers.below(4) != 0) {
                symbol = numbers.from(1, 3);
            }
            groups = groups << 5 | (i < used || numbers.once(60) ? symbol : 0);
        }
        return groups;
    }

    private int word() {
        if (numbers.once(6)) {
            return numbers.once(2) ? symbols() : numbers.below(Integer.MAX_VALUE);
        }
        int groups = 0;
        int used = numbers.from(1, 4);
        for (int i = 0; i < 6; i++) {
            groups = groups << 5 | (i < used ? numbers.from(1, 3) : 0);
        }
        return groups;
    }

    private int name() {
        return Texts.keys(numbers.once(10) ? "zz" : String.valueOf((char) ('a' + numbers.below(7))));
    }

    private int near(int least, int most) {
        return numbers.once(15) ? (numbers.once(2) ? least - 1 : most + 1) : numbers.from(least, most);
    }

    private static int[] sizes(int most, Numbers numbers, int run) {
        return new int[] {run % 3 == 0 ? numbers.from(2, 4) : numbers.from(2, 16), numbers.from(1, most)};
    }

    private String text() {
        StringBuilder text = new StringBuilder();
        int sessions = run % 5 == 0 ? 1 : numbers.from(1, 4);
        for (int i = 0; i < sessions; i++) {
            int[] size = sizes(run % 2 == 0 ? 2 : 6, numbers, run);
            text.append("session ").append((char) ('a' + i)).append(' ').append(size[0]).append(' ').append(size[1]).append(";");
        }
        int users = numbers.from(1, 6);
        for (int i = 0; i < users; i++) {
            int[] size = sizes(6, numbers, run);
            text.append(" user ").append((char) ('a' + i)).append(" 0").append(size[0]).append('\n').append(size[1]).append(";");
        }
        if (numbers.once(2)) {
            text.append("set wait ").append(numbers.from(1, 30)).append(" ;");
        }
        if (numbers.once(2)) {
            text.append("set shrink ").append(numbers.below(2)).append(";");
        }
        return text.toString();
    }

    private String spoiled(String text) {
        String[] scraps = {"session ", "user ", "set ", "wait ", "shrink ", ";", " 1 ", " 17 ", "7", "0", "a", "abcdefg", "#",
            "99999999999999999999", "\t", " ", "\n", "Z", "", "set shrink 1;", "user d 2 2;", "session b 3 3;"};
        for (int i = numbers.from(1, 3); i > 0; i--) {
            int from = numbers.below(text.length() + 1);
            int to = Math.min(text.length(), from + (numbers.once(3) ? numbers.below(6) : 0));
            text = text.substring(0, from) + scraps[numbers.below(scraps.length)] + text.substring(to);
        }
        return numbers.once(8) ? text.substring(0, numbers.below(text.length() + 1)) : text;
    }

    private void loadText(String text) {
        byte[] bytes = Arrays.copyOf(text.getBytes(java.nio.charset.StandardCharsets.ISO_8859_1), (text.length() + 19) / 20 * 20);
        java.nio.ByteBuffer words = java.nio.ByteBuffer.wrap(bytes);
        while (words.hasRemaining()) {
            call("feed", words.getInt(), words.getInt(), words.getInt(), words.getInt(), words.getInt());
        }
        call("load", text.length());
        call("errorPosition");
    }

    // ---- the calls

    private Object[] argumentsOfChange(String name) {
        int user = user();
        int watched = watched(user);
        switch (name) {
            case "attach":
                return new Object[] {user, session()};
            case "goTo":
                return new Object[] {user, position(watched)};
            case "replay":
                return new Object[] {user, position(watched), numbers.once(3) ? near(10, 1000) : numbers.from(10, 60)};
            case "lookBack":
                return new Object[] {user, numbers.once(2) ? near(0, 40) : numbers.below(5)};
            case "window":
                return new Object[] {user, near(2, 16), near(1, 6)};
            case "type":
                return new Object[] {typist(user), symbols()};
            case "answer":
                return new Object[] {numbers.once(3) ? user : typist(user), numbers.once(2)};
            case "pass":
                boolean far = run % 9 == 4 || numbers.once(20);
                return new Object[] {far ? near(1, 500) : numbers.from(1, 9)};
            case "setSetting":
                return numbers.once(2) ? new Object[] {0, near(1, numbers.once(3) ? 99 : 9)} : new Object[] {near(0, 1), near(0, 1)};
            case "undo":
                return new Object[] {};
            default:
                return new Object[] {user};
        }
    }

    /** Mostly somebody who controls a session. */
    private int typist(int user) {
        if (numbers.once(6) || model.count(0) == 0) {
            return user;
        }
        int holder = model.session(numbers.below(model.count(0)), 3);
        return holder < 0 ? user : holder;
    }

    private void change() {
        String name = CHANGES[numbers.below(CHANGES.length)];
        if (run % 5 == 2 && numbers.once(4)) {
            name = "undo";
        } else if (run % 9 == 4 && numbers.once(2)) {
            name = "pass";
        } else if (numbers.once(run % 3 + 1)) {
            name = "type";
        } else if (numbers.once(3)) {
            name = "request";
        } else if (name.equals("undo") && !numbers.once(3)) {
            name = "pass";
        } else if ((name.equals("detach") || name.equals("yield")) && numbers.once(2)) {
            name = "attach";
        }
        call(name, stretched(argumentsOfChange(name)));
    }

    private Object[] argumentsOfOther(String name) {
        int session = session();
        int user = user();
        switch (name) {
            case "count":
                return new Object[] {near(0, 3)};
            case "named":
                return new Object[] {numbers.once(2), numbers.once(9) ? numbers.below(Integer.MAX_VALUE) : name()};
            case "getSetting":
                return new Object[] {numbers.from(-1, 2)};
            case "session":
                return new Object[] {session, near(0, 5)};
            case "event":
                return new Object[] {session, position(session), near(0, 3)};
            case "screen":
                return new Object[] {session, position(session), near(0, 4)};
            case "at":
                return new Object[] {session, position(session), near(0, 5), near(0, 15)};
            case "above":
                return new Object[] {session, position(session), numbers.once(2) ? near(0, 39) : numbers.below(4), near(0, 15)};
            case "user":
                return new Object[] {user, near(0, 6)};
            case "shown":
                return new Object[] {user, near(0, 5), near(0, 15)};
            case "watchers":
                return new Object[] {session, numbers.from(-1, 4)};
            case "rightSize":
            case "narrowest":
                return new Object[] {session, numbers.once(2)};
            case "grantedAt":
                return new Object[] {session};
            case "reachedAt":
                return new Object[] {user, position(watched(user))};
            case "firstShowing":
                return new Object[] {session, word()};
            case "firstDifference":
                return new Object[] {session, position(session), position(session)};
            case "fullness":
                return new Object[] {session, position(session)};
            case "account":
                return new Object[] {near(0, 3)};
            case "outputAt":
                return new Object[] {near(0, 110)};
            case "errorPosition":
            case "undoCount":
                return new Object[] {};
            default:
                return new Object[] {user};
        }
    }

    private void other() {
        String name = OTHERS[numbers.from(2, OTHERS.length - 1)];
        if (numbers.once(60)) {
            loadText(numbers.once(4) ? text() : spoiled(text()));
        } else if (numbers.once(200)) {
            call("load", numbers.from(-1, 3));
        } else if (numbers.once(400)) {
            loadText(" ".repeat(numbers.from(300, 600)) + "set wait 7;");
        } else {
            call(name, stretched(argumentsOfOther(name)));
        }
    }

    /** What can be asked of the present, of any sessions and users, as far as the calls last. */
    private void askEverything() {
        for (int what = 0; what < 4; what++) {
            call("count", what);
            call("account", what);
        }
        call("undoCount");
        call("getSetting", 0);
        call("getSetting", 1);
        int sessions = Math.max(1, model.count(0));
        int users = Math.max(1, model.count(1));
        int first = numbers.below(12);
        for (int i = first; i < first + 6; i++) {
            if (numbers.once(2)) {
                askAboutSession(i % sessions);
            } else {
                askAboutUser(i % users);
            }
        }
    }

    private void askAboutSession(int session) {
        int events = events(session);
        for (int what = 0; what < 6; what++) {
            call("session", session, what);
        }
        for (int what = 0; what < 5; what++) {
            call("screen", session, events, what);
            call("event", session, events - 1, what);
        }
        for (int place = 0; place < 96; place++) {
            call("at", session, events, place / 16, place % 16);
        }
        for (int line = 0; line < 42; line++) {
            call("above", session, events, line, line % 5);
        }
        for (int way = 0; way < 4; way++) {
            call("watchers", session, way);
        }
        for (boolean height : new boolean[] {false, true}) {
            call("rightSize", session, height);
            call("narrowest", session, height);
        }
        call("grantedAt", session);
    }

    private void askAboutUser(int user) {
        for (int what = 0; what < 7; what++) {
            call("user", user, what);
        }
        for (String name : new String[] {"cursorRow", "whyNot", "behind", "typedBy", "write"}) {
            call(name, user);
        }
        for (int i = 0; i < 103; i++) {
            call("outputAt", i);
        }
        for (int place = 0; place < 96; place++) {
            call("shown", user, place / 16, place % 16);
        }
    }

    private void start() {
        if (run % 10 != 9) {
            loadText(text());
        }
        int questions = run % 7 == 0 ? 2 : 10;
        int last = run % 4 == 0 ? numbers.from(60, 360) : CALLS;
        while (log.size() < last && !Check.anyFailed()) {
            if (numbers.below(questions) < questions / 2) {
                other();
            } else {
                change();
            }
        }
        askEverything();
    }

    public static void main(String[] arguments) {
        collect(SharedConsole.class, OF_CLASS);
        collect(Model.class, OF_MODEL);
        int runs = arguments.length > 1 ? Integer.parseInt(arguments[1]) : RUNS;
        for (int run = 0; run < runs; run++) {
            new ModelTest(run).start();
        }
        Check.end();
    }
}

import java.util.ArrayDeque;
import java.util.ArrayList;
import java.util.Arrays;
import java.util.Deque;
import java.util.HashMap;
import java.util.List;
import java.util.Map;
import java.util.regex.Matcher;
import java.util.regex.Pattern;

/**
 * What the document says, written a second time and as slowly as it may be: lists that grow, whole
 * copies for undo, nothing shared with the class under test. ModelTest compares the two.
 */
public final class Model {
    private record Event(boolean sized, int symbol, int width, int height, int time, int by) { }

    private static final class Session {
        String name;
        int width, height;
        List<Event> events = new ArrayList<>();
        int control = -1, asks = -1, askedAt;

        Session copy() {
            Session c = new Session();
            c.name = name;
            c.width = width;
            c.height = height;
            c.events = new ArrayList<>(events);
            c.control = control;
            c.asks = asks;
            c.askedAt = askedAt;
            return c;
        }
    }

    private static final class User {
        String name;
        int width, height, way, stoppedAt, from, start, speed, back;
        int watched = -1;

        User copy() {
            User c = new User();
            c.name = name;
            c.width = width;
            c.height = height;
            c.way = way;
            c.stoppedAt = stoppedAt;
            c.from = from;
            c.start = start;
            c.speed = speed;
            c.back = back;
            c.watched = watched;
            return c;
        }
    }

    private static final class World {
        List<Session> sessions = new ArrayList<>();
        List<User> users = new ArrayList<>();
        int[] settings = {10, 0};
        int[] account = new int[4];
        int time;

        World copy() {
            World c = new World();
            for (Session s : sessions) {
                c.sessions.add(s.copy());
            }
            for (User u : users) {
                c.users.add(u.copy());
            }
            c.settings = settings.clone();
            c.account = account.clone();
            c.time = time;
            return c;
        }
    }

    /** A screen as strings: letters as themselves, '_' for SPACE. */
    private static final class Screen {
        List<String> gone = new ArrayList<>();
        List<String> rows = new ArrayList<>();
        int width, row, column;

        String empty(int n) {
            return "_".repeat(n);
        }

        void down() {
            column = 0;
            if (row + 1 == rows.size()) {
                gone.add(rows.remove(0));
                rows.add(empty(width));
            } else {
                row++;
            }
        }

        void play(Event e) {
            if (e.sized) {
                for (int i = 0; i < rows.size(); i++) {
                    String r = rows.get(i);
                    rows.set(i, e.width <= r.length() ? r.substring(0, e.width) : r + empty(e.width - r.length()));
                }
                width = e.width;
                if (column >= width) {
                    column = width - 1;
                }
                while (row >= e.height) {
                    gone.add(rows.remove(0));
                    row--;
                }
                while (rows.size() > e.height) {
                    rows.remove(rows.size() - 1);
                }
                while (rows.size() < e.height) {
                    rows.add(empty(width));
                }
            } else if (e.symbol <= 27) {
                char c = e.symbol == 27 ? '_' : (char) (96 + e.symbol);
                String r = rows.get(row);
                rows.set(row, r.substring(0, column) + c + r.substring(column + 1));
                column++;
                if (column == width) {
                    down();
                }
            } else if (e.symbol == 28) {
                down();
            } else if (e.symbol == 29) {
                column = 0;
            } else if (e.symbol == 30) {
                if (column > 0) {
                    column--;
                }
            } else {
                rows.replaceAll(r -> empty(r.length()));
                row = 0;
                column = 0;
            }
            while (gone.size() > 40) {
                gone.remove(0);
            }
        }

        List<String> lines() {
            List<String> all = new ArrayList<>(gone);
            all.addAll(rows);
            return all;
        }
    }

    private static int symbol(String line, int column) {
        if (column >= line.length()) {
            return 27;
        }
        return line.charAt(column) == '_' ? 27 : line.charAt(column) - 96;
    }

    private World world = new World();
    private final Deque<World> past = new ArrayDeque<>();
    private final List<Integer> input = new ArrayList<>();
    private String output = "";
    private int error = -1;

    // ---- the buffers and load

    public int feed(int a, int b, int c, int d, int e) {
        if (input.size() > 580) {
            return -3;
        }
        for (int word : new int[] {a, b, c, d, e}) {
            for (byte octet : java.nio.ByteBuffer.allocate(4).putInt(word).array()) {
                input.add(octet & 0xff);
            }
        }
        return input.size();
    }

    private static final class Bad extends Exception {
        private static final long serialVersionUID = 1;
        final int code, position;

        Bad(int code, int position) {
            this.code = code;
            this.position = position;
        }
    }

    private static final Pattern TOKEN = Pattern.compile("[ \\n]*([a-z]+|[0-9]+|[^ \\n]|$)", Pattern.DOTALL);

    private Matcher tokens;
    private int tokenAt;

    private String token() {
        if (!tokens.find()) {
            return "";
        }
        tokenAt = tokens.start(1);
        return tokens.group(1);
    }

    private int integer(int least, int most) throws Bad {
        String t = token();
        if (!t.matches("[0-9]+")) {
            throw new Bad(-11, tokenAt);
        }
        java.math.BigInteger n = new java.math.BigInteger(t);
        if (n.compareTo(java.math.BigInteger.valueOf(least)) < 0 || n.compareTo(java.math.BigInteger.valueOf(most)) > 0) {
            throw new Bad(-12, tokenAt);
        }
        return n.intValue();
    }

    private int parse(String text, World w) throws Bad {
        tokens = TOKEN.matcher(text);
        Map<String, Boolean> given = new HashMap<>();
        int n = 0;
        while (true) {
            String first = token();
            if (first.isEmpty()) {
                return n;
            }
            if (first.equals("set")) {
                String which = token();
                if (!which.equals("wait") && !which.equals("shrink")) {
                    throw new Bad(-11, tokenAt);
                }
                if (given.put(which, true) != null) {
                    throw new Bad(-14, tokenAt);
                }
                if (which.equals("wait")) {
                    w.settings[0] = integer(1, 99);
                } else {
                    w.settings[1] = integer(0, 1);
                }
            } else if (first.equals("session") || first.equals("user")) {
                boolean user = first.equals("user");
                if (user ? w.users.size() == 6 : w.sessions.size() == 4) {
                    throw new Bad(-15, tokenAt);
                }
                String name = token();
                if (!name.matches("[a-z]{1,6}")) {
                    throw new Bad(-11, tokenAt);
                }
                for (int i = 0; i < (user ? w.users.size() : w.sessions.size()); i++) {
                    if (name.equals(user ? w.users.get(i).name : w.sessions.get(i).name)) {
                        throw new Bad(-14, tokenAt);
                    }
                }
                int width = integer(2, 16);
                int height = integer(1, 6);
                if (user) {
                    User u = new User();
                    u.name = name;
                    u.width = width;
                    u.height = height;
                    w.users.add(u);
                } else {
                    Session s = new Session();
                    s.name = name;
                    s.width = width;
                    s.height = height;
                    w.sessions.add(s);
                }
            } else {
                throw new Bad(-11, tokenAt);
            }
            if (!token().equals(";")) {
                throw new Bad(-11, tokenAt);
            }
            n++;
        }
    }

    public int load(int length) {
        if (length < 0 || length > input.size()) {
            return -2;
        }
        StringBuilder text = new StringBuilder();
        for (int octet : input.subList(0, length)) {
            text.append((char) octet);
        }
        input.clear();
        World fresh = new World();
        try {
            int n = parse(text.toString(), fresh);
            world = fresh;
            past.clear();
            error = -1;
            return n;
        } catch (Bad bad) {
            error = bad.position;
            return bad.code;
        }
    }

    public int errorPosition() {
        return error;
    }

    // ---- questions

    private Session sessionAt(int i) {
        if (i < 0 || i >= world.sessions.size()) {
            throw new IndexOutOfBoundsException();
        }
        return world.sessions.get(i);
    }

    private User userAt(int i) {
        if (i < 0 || i >= world.users.size()) {
            throw new IndexOutOfBoundsException();
        }
        return world.users.get(i);
    }

    private Screen draw(Session s, int position) {
        if (position < 0 || position > s.events.size()) {
            throw new IndexOutOfBoundsException();
        }
        Screen screen = new Screen();
        screen.width = s.width;
        for (int i = 0; i < s.height; i++) {
            screen.rows.add(screen.empty(s.width));
        }
        for (Event e : s.events.subList(0, position)) {
            screen.play(e);
        }
        return screen;
    }

    private boolean replayHolds(User u, List<Event> events, int p, long passed) {
        for (int e = u.from; e < p; e++) {
            if ((events.get(e).time - events.get(u.from).time) * 100L > passed * u.speed) {
                return false;
            }
        }
        return true;
    }

    private int position(User u) {
        List<Event> events = world.sessions.get(u.watched).events;
        if (u.way == 1) {
            return events.size();
        }
        if (u.way == 2) {
            return u.stoppedAt;
        }
        for (int p = events.size(); ; p--) {
            if (replayHolds(u, events, p, world.time - u.start)) {
                return p;
            }
        }
    }

    public int count(int what) {
        if (what == 0) {
            return world.sessions.size();
        }
        if (what == 1) {
            return world.users.size();
        }
        if (what == 2) {
            return (int) world.users.stream().filter(u -> u.way != 0).count();
        }
        return what == 3 ? world.time : -2;
    }

    public int undoCount() {
        return past.size();
    }

    private static int packed(String name) {
        int n = 0;
        for (int i = 0; i < 6; i++) {
            n = n * 32 + (i < name.length() ? name.charAt(i) - 96 : 0);
        }
        return n;
    }

    public int named(boolean user, int letters) {
        for (int i = 0; i < (user ? world.users.size() : world.sessions.size()); i++) {
            if (packed(user ? world.users.get(i).name : world.sessions.get(i).name) == letters) {
                return i;
            }
        }
        return -1;
    }

    public int getSetting(int setting) {
        return setting == 0 || setting == 1 ? world.settings[setting] : -2;
    }

    public int session(int session, int what) {
        Session s = sessionAt(session);
        int[] answers = {s.width, s.height, s.events.size(), s.control, s.asks, s.asks < 0 ? -1 : s.askedAt};
        return what < 0 || what > 5 ? -2 : answers[what];
    }

    public int event(int session, int event, int what) {
        Session s = sessionAt(session);
        if (event < 0 || event >= s.events.size()) {
            return -1;
        }
        Event e = s.events.get(event);
        int[] answers = {e.sized ? 1 : 0, e.sized ? e.width : e.symbol, e.sized ? e.height : 0, e.time};
        return what < 0 || what > 3 ? -2 : answers[what];
    }

    public int screen(int session, int position, int what) {
        Screen c = draw(sessionAt(session), position);
        int[] answers = {c.width, c.rows.size(), c.row, c.column, c.gone.size()};
        return what < 0 || what > 4 ? -2 : answers[what];
    }

    public int at(int session, int position, int row, int column) {
        Screen c = draw(sessionAt(session), position);
        if (row < 0 || row >= c.rows.size() || column < 0 || column >= c.rows.get(row).length()) {
            return -1;
        }
        return symbol(c.rows.get(row), column);
    }

    public int above(int session, int position, int line, int column) {
        Screen c = draw(sessionAt(session), position);
        if (line < 0 || line >= c.gone.size() || column < 0 || column > 15) {
            return -1;
        }
        return symbol(c.gone.get(line), column);
    }

    public int user(int user, int what) {
        User u = userAt(user);
        int[] answers = {u.width, u.height, u.way, u.watched, u.way == 0 ? -1 : position(u), u.back,
            u.way == 3 ? u.speed : 0};
        return what < 0 || what > 6 ? -2 : answers[what];
    }

    private List<String> view(User u) {
        Screen c = draw(world.sessions.get(u.watched), position(u));
        List<String> lines = c.lines();
        int top = Math.max(0, c.gone.size() + c.row - u.back - u.height + 1);
        List<String> seen = new ArrayList<>();
        for (int r = 0; r < u.height; r++) {
            String line = top + r < lines.size() ? lines.get(top + r) : "";
            seen.add((line + "________________").substring(0, u.width));
        }
        return seen;
    }

    public int shown(int user, int row, int column) {
        User u = userAt(user);
        if (u.way == 0 || row < 0 || row >= u.height || column < 0 || column >= u.width) {
            return -1;
        }
        return symbol(view(u).get(row), column);
    }

    public int cursorRow(int user) {
        User u = userAt(user);
        if (u.way == 0) {
            return -1;
        }
        Screen c = draw(world.sessions.get(u.watched), position(u));
        int line = c.gone.size() + c.row;
        int top = Math.max(0, line - u.back - u.height + 1);
        for (int r = 0; r < u.height; r++) {
            if (top + r == line) {
                return r;
            }
        }
        return -1;
    }

    private int bits(int session, int way) {
        int bits = 0;
        for (int i = 0; i < world.users.size(); i++) {
            User u = world.users.get(i);
            if (u.watched == session && u.way == way) {
                bits += 1 << i;
            }
        }
        return bits;
    }

    public int watchers(int session, int way) {
        sessionAt(session);
        return way < 1 || way > 3 ? 0 : bits(session, way);
    }

    private int right(int session, boolean height) {
        Session s = world.sessions.get(session);
        int size = height ? s.height : s.width;
        if (world.settings[1] == 1) {
            for (User u : world.users) {
                if (u.way == 1 && u.watched == session) {
                    size = Math.min(size, height ? u.height : u.width);
                }
            }
        }
        return size;
    }

    public int rightSize(int session, boolean height) {
        sessionAt(session);
        return right(session, height);
    }

    public int narrowest(int session, boolean height) {
        Session s = sessionAt(session);
        for (int size = 1; size < (height ? s.height : s.width); size++) {
            for (int i = 0; i < world.users.size(); i++) {
                User u = world.users.get(i);
                if (u.way == 1 && u.watched == session && (height ? u.height : u.width) == size) {
                    return i;
                }
            }
        }
        return -1;
    }

    public int whyNot(int user) {
        User u = userAt(user);
        if (u.way == 0) {
            return 1;
        }
        if (u.way != 1) {
            return 2;
        }
        Session s = world.sessions.get(u.watched);
        return s.control == -1 ? 3 : s.control != user ? 4 : s.events.size() == 300 ? 5 : 0;
    }

    public int grantedAt(int session) {
        Session s = sessionAt(session);
        if (s.asks < 0) {
            return -1;
        }
        for (int t = world.time + 1; ; t++) {
            if (t - s.askedAt >= world.settings[0]) {
                return t;
            }
        }
    }

    public int reachedAt(int user, int position) {
        User u = userAt(user);
        if (u.way != 3 || position < u.from || position > world.sessions.get(u.watched).events.size()) {
            return -1;
        }
        int ticks = 0;
        while (!replayHolds(u, world.sessions.get(u.watched).events, position, ticks)) {
            ticks++;
        }
        return u.start + ticks;
    }

    public int behind(int user) {
        User u = userAt(user);
        return u.way == 0 ? 0 : world.sessions.get(u.watched).events.size() - position(u);
    }

    public int firstShowing(int session, int letters) {
        Session s = sessionAt(session);
        if (letters < 0 || letters >= 1 << 30) {
            return -1;
        }
        StringBuilder word = new StringBuilder();
        for (int shift = 25; shift >= 0; shift -= 5) {
            int group = letters >> shift & 31;
            word.append(group == 0 ? ' ' : (char) (96 + group));
        }
        String bare = word.toString().stripTrailing();
        if (!bare.matches("[a-z]{1,6}")) {
            return -1;
        }
        for (int p = 0; p <= s.events.size(); p++) {
            for (String row : draw(s, p).rows) {
                if (row.contains(bare)) {
                    return p;
                }
            }
        }
        return -1;
    }

    public int firstDifference(int session, int a, int b) {
        Session s = sessionAt(session);
        Screen one = draw(s, a);
        Screen two = draw(s, b);
        for (int place = 0; place < 96; place++) {
            int r = place / 16;
            int c = place % 16;
            if (r < one.rows.size() && r < two.rows.size() && c < one.width && c < two.width
                    && one.rows.get(r).charAt(c) != two.rows.get(r).charAt(c)) {
                return place;
            }
        }
        return -1;
    }

    public float fullness(int session, int position) {
        Screen c = draw(sessionAt(session), position);
        String all = String.join("", c.rows);
        return (float) all.replace("_", "").length() / (float) all.length();
    }

    public int typedBy(int user) {
        userAt(user);
        return (int) world.sessions.stream().flatMap(s -> s.events.stream()).filter(e -> !e.sized && e.by == user).count();
    }

    public int account(int what) {
        return what < 0 || what > 3 ? -2 : world.account[what];
    }

    // ---- changes

    private boolean isUser(int user) {
        return user >= 0 && user < world.users.size();
    }

    private void before() {
        past.addLast(world.copy());
        if (past.size() > 8) {
            past.removeFirst();
        }
    }

    private void behind() {
        for (int i = 0; i < world.sessions.size(); i++) {
            Session s = world.sessions.get(i);
            Screen last = draw(s, s.events.size());
            int w = right(i, false);
            int h = right(i, true);
            if ((last.width != w || last.rows.size() != h) && s.events.size() < 300) {
                s.events.add(new Event(true, 0, w, h, world.time, -1));
            }
        }
    }

    private void leave(int user) {
        for (Session s : world.sessions) {
            if (s.asks == user) {
                s.asks = -1;
            }
            if (s.control == user) {
                s.control = s.asks;
                s.asks = -1;
            }
        }
    }

    private int watching(int session) {
        return Integer.bitCount(bits(session, 1) | bits(session, 2) | bits(session, 3));
    }

    public int attach(int user, int session) {
        if (!isUser(user) || session < 0 || session >= world.sessions.size()) {
            return -1;
        }
        before();
        leave(user);
        User u = world.users.get(user);
        u.watched = session;
        u.way = 1;
        u.back = 0;
        behind();
        return watching(session);
    }

    private int watches(int user) {
        return !isUser(user) ? -1 : world.users.get(user).way == 0 ? -4 : 0;
    }

    public int detach(int user) {
        if (watches(user) != 0) {
            return watches(user);
        }
        before();
        leave(user);
        User u = world.users.get(user);
        int session = u.watched;
        u.watched = -1;
        u.way = 0;
        behind();
        return watching(session);
    }

    public int goTo(int user, int position) {
        if (watches(user) != 0) {
            return watches(user);
        }
        User u = world.users.get(user);
        if (position < 0 || position > world.sessions.get(u.watched).events.size()) {
            return -2;
        }
        before();
        int old = position(u);
        leave(user);
        u.way = 2;
        u.stoppedAt = position;
        behind();
        return old;
    }

    public int goLive(int user) {
        if (watches(user) != 0) {
            return watches(user);
        }
        before();
        User u = world.users.get(user);
        int old = position(u);
        u.way = 1;
        behind();
        return old;
    }

    public int replay(int user, int from, int speed) {
        if (watches(user) != 0) {
            return watches(user);
        }
        User u = world.users.get(user);
        if (speed < 10 || speed > 1000 || from < 0 || from > world.sessions.get(u.watched).events.size()) {
            return -2;
        }
        before();
        leave(user);
        u.way = 3;
        u.from = from;
        u.start = world.time;
        u.speed = speed;
        behind();
        return position(u);
    }

    public int lookBack(int user, int lines) {
        if (watches(user) != 0) {
            return watches(user);
        }
        if (lines < 0 || lines > 40) {
            return -2;
        }
        before();
        User u = world.users.get(user);
        int old = u.back;
        u.back = lines;
        behind();
        return old;
    }

    public int window(int user, int width, int height) {
        if (!isUser(user)) {
            return -1;
        }
        if (width < 2 || width > 16 || height < 1 || height > 6) {
            return -2;
        }
        before();
        User u = world.users.get(user);
        int old = u.width;
        u.width = width;
        u.height = height;
        behind();
        return old;
    }

    public int type(int user, int symbols) {
        if (!isUser(user)) {
            return -1;
        }
        if (symbols <= 0 || (symbols & 1 << 30) != 0) {
            return -2;
        }
        List<Integer> groups = new ArrayList<>();
        for (int rest = symbols; groups.size() < 6; rest = rest << 5 & 0x3fffffff) {
            groups.add(rest >>> 25);
        }
        while (groups.get(groups.size() - 1) == 0) {
            groups.remove(groups.size() - 1);
        }
        if (groups.contains(0)) {
            return -2;
        }
        if (whyNot(user) != 0) {
            return -4;
        }
        Session s = world.sessions.get(world.users.get(user).watched);
        if (s.events.size() + groups.size() > 300) {
            return -3;
        }
        before();
        s = world.sessions.get(world.users.get(user).watched);
        for (int group : groups) {
            s.events.add(new Event(false, group, 0, 0, world.time, user));
        }
        behind();
        return s.events.size();
    }

    public int request(int user) {
        if (!isUser(user)) {
            return -1;
        }
        User u = world.users.get(user);
        if (u.way != 1) {
            return -4;
        }
        Session s = world.sessions.get(u.watched);
        if (s.control == user || s.asks >= 0) {
            return -4;
        }
        before();
        world.account[0]++;
        int answer;
        if (s.control < 0) {
            s.control = user;
            answer = 1;
        } else {
            s.asks = user;
            s.askedAt = world.time;
            answer = 0;
        }
        behind();
        return answer;
    }

    private Session controlled(int user) {
        return world.sessions.stream().filter(s -> s.control == user).findFirst().orElse(null);
    }

    public int answer(int user, boolean grants) {
        if (!isUser(user)) {
            return -1;
        }
        Session s = controlled(user);
        if (s == null || s.asks < 0) {
            return -4;
        }
        before();
        int asked = s.asks;
        s.asks = -1;
        if (grants) {
            s.control = asked;
        }
        world.account[grants ? 1 : 3]++;
        behind();
        return asked;
    }

    public int yield(int user) {
        if (!isUser(user)) {
            return -2;
        }
        Session s = controlled(user);
        if (s == null) {
            return -4;
        }
        before();
        s.control = s.asks;
        s.asks = -1;
        behind();
        return s.control;
    }

    public int pass(int ticks) {
        if (ticks < 1 || ticks > 500) {
            return -2;
        }
        if (world.time > 9999 - ticks) {
            return -3;
        }
        before();
        int granted = 0;
        for (int end = world.time + ticks; world.time < end; ) {
            world.time++;
            for (Session s : world.sessions) {
                if (s.asks >= 0 && world.time >= s.askedAt + world.settings[0]) {
                    s.control = s.asks;
                    s.asks = -1;
                    world.account[2]++;
                    granted++;
                }
            }
        }
        behind();
        return granted;
    }

    public int setSetting(int setting, int value) {
        boolean fine = setting == 0 && value >= 1 && value <= 99 || setting == 1 && value >= 0 && value <= 1;
        if (!fine) {
            return -2;
        }
        before();
        int old = world.settings[setting];
        world.settings[setting] = value;
        behind();
        return old;
    }

    public int undo() {
        if (past.isEmpty()) {
            return -1;
        }
        world = past.removeLast();
        return past.size();
    }

    public int write(int user) {
        User u = userAt(user);
        StringBuilder text = new StringBuilder();
        if (u.way != 0) {
            for (String row : view(u)) {
                text.append(row.replace('_', ' ')).append('\n');
            }
        }
        output = text.toString();
        return output.length();
    }

    public int outputAt(int index) {
        return index < 0 || index >= output.length() ? -1 : output.charAt(index);
    }

    @Override
    public String toString() {
        return "model with settings " + Arrays.toString(world.settings);
    }
}

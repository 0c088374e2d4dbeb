/** Sentences about watching, replays, windows and sizes, and those of promises 14 to 19, 22, 23, 29 to 35, 43 and 44. */
final class WatchSentences {
    private static final int NOT_FOUND = SharedConsole.NOT_FOUND, BAD_VALUE = SharedConsole.BAD_VALUE,
        NOT_ALLOWED = SharedConsole.NOT_ALLOWED;
    private static final int NOTHING = SharedConsole.NOTHING, LIVE = SharedConsole.LIVE, STOPPED = SharedConsole.STOPPED,
        REPLAYING = SharedConsole.REPLAYING;
    private static final int SHRINK = SharedConsole.SHRINK, SPACE = SharedConsole.SPACE;
    private static final int MOST = Integer.MAX_VALUE, LEAST = Integer.MIN_VALUE;
    private static final String IN_THIS_ORDER = "checked in this order.";
    private static final String NO_USER = "NOT_FOUND if user is not a valid index;";
    private static final String NO_WATCHER = "NOT_ALLOWED if it watches nothing;";
    private static final String THROWS_FOR_USER = "Throws `IndexOutOfBoundsException` if user is not a valid index";
    private static final String THROWS_FOR_SESSION = "Throws `IndexOutOfBoundsException` if session is not a valid index";
    private static final int[] NO_USERS = {-1, 3, 6, LEAST, MOST};
    private static final int[] NO_SESSIONS = {-1, 2, 4, LEAST, MOST};

    private final Doc doc;

    WatchSentences(Doc doc) {
        this.doc = doc;
    }

    void check() {
        ways();
        leaving();
        lookingBack();
        replays();
        replayFromTheEnd();
        lines();
        uppermostRow();
        rowsAndColumns();
        rightSizes();
        sizedEvents();
        user();
        shown();
        cursorRow();
        watchers();
        rightSize();
        narrowest();
        reachedAt();
        reachedLate();
        behind();
        attach();
        detach();
        goTo();
        goLive();
        replay();
        replaySpeeds();
        lookBack();
        window();
        write();
        outputAt();
    }

    /** Users a and b watch session s, with four events: two at the time 0, one at 10, one at 15. It is 20 then. */
    private static SharedConsole recorded() {
        SharedConsole x = Setups.watching("ab");
        x.pass(10);
        Texts.type(x, 0, "c");
        x.pass(5);
        Texts.type(x, 0, "d");
        x.pass(5);
        x.attach(1, 0);
        return x;
    }

    private void ways() {
        doc.says("WATCHING", "A user watches at most one session, in one of these ways: LIVE (its position is the "
            + "number of events), STOPPED (it has a position that stays), REPLAYING (see below).");
        SharedConsole x = Setups.watching("abc");
        x.attach(1, 1);
        x.attach(1, 0);
        Check.due("one session", x.watchers(0, LIVE) * 10 + x.watchers(1, LIVE), 30);
        Check.due("LIVE", x.user(1, 2) * 10 + x.user(1, 4), LIVE * 10 + 3);
        Texts.type(x, 0, "de");
        Check.due("with the events", x.user(1, 4), 5);
        x.goTo(1, 2);
        Texts.type(x, 0, "f");
        x.pass(100);
        Check.due("STOPPED", x.user(1, 2) * 10 + x.user(1, 4), STOPPED * 10 + 2);
        x.replay(1, 4, 10);
        Check.due("REPLAYING", x.user(1, 2) * 10 + x.user(1, 4), REPLAYING * 10 + 6);
        Check.due("in one way", x.watchers(0, LIVE) + 10 * x.watchers(0, STOPPED) + 100 * x.watchers(0, REPLAYING), 201);
        doc.says("WATCHING", "At first nobody watches anything.");
        SharedConsole y = Setups.watching("abc");
        Texts.load(y, "session s 4 2;session t 6 3;user a 4 2;user b 3 1;");
        Check.due("users who watch", y.count(2), 0);
        for (int user = 0; user < 2; user++) {
            Check.due("way of user " + user, y.user(user, 2), NOTHING);
            Check.due("session of user " + user, y.user(user, 3), NOT_FOUND);
        }
        for (int way = LIVE; way <= REPLAYING; way++) {
            Check.due("way " + way, y.watchers(0, way) + y.watchers(1, way), 0);
        }
    }

    private static int leave(SharedConsole x, int user, int how) {
        switch (how) {
            case 0:
                return x.attach(user, 1);
            case 1:
                return x.attach(user, 0);
            case 2:
                return x.detach(user);
            case 3:
                return x.goTo(user, 0);
            default:
                return x.replay(user, 0, 10);
        }
    }

    private void leaving() {
        doc.says("WATCHING", "When a user leaves a session, or watches it in another way than LIVE, it loses its "
            + "control of it or its request for that.");
        for (int how = 0; how < 5; how++) {
            SharedConsole x = Setups.watching("abc");
            leave(x, 0, how);
            Check.due("control, " + how, x.session(0, 3), NOT_FOUND);
            SharedConsole y = Setups.watching("abc");
            y.attach(1, 0);
            y.request(1);
            leave(y, 1, how);
            Check.due("request, " + how, y.session(0, 4) * 10 + y.session(0, 3), -10);
            SharedConsole z = Setups.watching("abc");
            z.attach(2, 0);
            leave(z, 2, how);
            Check.due("others keep it, " + how, z.session(0, 3), 0);
        }
        SharedConsole x = Setups.watching("abc");
        x.goLive(0);
        x.lookBack(0, 40);
        x.window(0, 2, 1);
        Check.due("who stays LIVE keeps it", x.session(0, 3), 0);
    }

    private void lookingBack() {
        doc.says("WATCHING", "How many lines it looks back stays as it is, except by attach.");
        SharedConsole x = Setups.watching("abc");
        x.lookBack(0, 7);
        int[] answers = {x.goTo(0, 1), x.goLive(0), x.replay(0, 0, 10), x.window(0, 3, 3), x.pass(1), x.goLive(0),
            x.request(0), x.yield(0), x.detach(0)};
        Check.due("all these stay away from that", x.user(0, 5) * 10 + answers.length, 79);
        x.attach(0, 0);
        Check.due("attach", x.user(0, 5), 0);
        x.lookBack(0, 7);
        x.attach(0, 0);
        Check.due("attach to the same session", x.user(0, 5), 0);
        x.lookBack(0, 7);
        x.attach(0, 1);
        Check.due("attach to another one", x.user(0, 5), 0);
    }

    /** The user's position after each of these times, one behind the other. */
    private static String positions(SharedConsole x, int user, int... ticks) {
        StringBuilder text = new StringBuilder();
        for (int some : ticks) {
            x.pass(some);
            text.append(x.user(user, 4));
        }
        return text.toString();
    }

    private void replays() {
        doc.says("REPLAYS", "A replay has a position from which it starts, a time at which it started, and a speed in "
            + "percent.");
        SharedConsole x = recorded();
        x.replay(1, 2, 30);
        Check.due("where it starts", x.reachedAt(1, 1) * 1000 + x.reachedAt(1, 2), -980);
        Check.due("its speed", x.user(1, 6), 30);
        x.pass(3);
        Check.due("the time stays", x.reachedAt(1, 2), 20);
        doc.says("REPLAYS", "Its position is the greatest p, not greater than the number of events, such that ... "
            + "times the speed.");
        x.replay(1, 0, 100);
        Check.due("just as fast", x.user(1, 4) + positions(x, 1, 9, 1, 4, 1, 100), "2" + "23344");
        x.replay(1, 0, 30);
        Check.due("slow, with a part of a tick", x.user(1, 4) + positions(x, 1, 33, 1, 15, 1), "2" + "2334");
        x.replay(1, 0, 1000);
        Check.due("fast, with a part of a tick", x.user(1, 4) + positions(x, 1, 1, 1), "2" + "34");
        x.replay(1, 0, 10);
        Check.due("slowest", x.user(1, 4) + positions(x, 1, 99, 1, 49, 1), "2" + "2334");
        x.replay(1, 1, 99);
        Check.due("from 1", x.user(1, 4) + positions(x, 1, 10, 1, 4, 1), "2" + "2334");
        x.replay(1, 2, 50);
        Check.due("from 2", x.user(1, 4) + positions(x, 1, 9, 1), "3" + "34");
        x.replay(1, 3, 10);
        Check.due("from 3", x.user(1, 4) + positions(x, 1, 500), "4" + "4");
    }

    private void replayFromTheEnd() {
        doc.says("REPLAYS", "(So the first event comes at once, and the position is the starting one as long as there "
            + "is no event behind it.)");
        SharedConsole x = recorded();
        Check.due("the first event", x.replay(1, 3, 10), 4);
        Check.due("no event", x.replay(1, 4, 10), 4);
        x.pass(3);
        Check.due("still none", x.user(1, 4), 4);
        Texts.type(x, 0, "e");
        Check.due("the first one that comes", x.user(1, 4), 5);
        x.pass(1);
        Texts.type(x, 0, "f");
        Check.due("the second one must wait", x.user(1, 4), 5);
        Check.due("ten ticks since the start", positions(x, 1, 5, 1), "56");
        SharedConsole y = Setups.watching("");
        y.attach(1, 0);
        Check.due("no event at all", y.replay(1, 0, 1000) + y.user(1, 4), 0);
        y.pass(1);
        Check.due("nor later", y.user(1, 4), 0);
        Texts.type(y, 0, "ab");
        Check.due("all of one time", y.user(1, 4), 2);
    }

    private void lines() {
        doc.says("WINDOWS", "All lines at a user's position are the lines that went up (those that are kept), then the "
            + "rows of the screen; they are numbered from 0.");
        SharedConsole x = Setups.watching("a/b/c/d");
        x.attach(2, 0);
        Check.due("up and on the screen", Texts.window(x, 2), window(16, 6, "a", "b", "c", "d"));
        x.goTo(2, 5);
        Check.due("at an earlier position", Texts.window(x, 2), window(16, 6, "a", "b", "c"));
        SharedConsole y = Texts.loaded("session s 2 1;user a 2 6;");
        y.attach(0, 0);
        y.request(0);
        for (int line = 0; line < 60; line++) {
            Texts.type(y, 0, (char) ('a' + line % 26) + "/");
        }
        y.lookBack(0, 40);
        Check.due("line 0 is the first that is kept", Texts.window(y, 0), window(2, 6, "u", "v", "w", "x", "y", "z"));
        y.lookBack(0, 0);
        Check.due("the last lines", Texts.window(y, 0), window(2, 6, "d", "e", "f", "g", "h"));
    }

    /** What a window of this size shows if these are its first rows and the others are empty. */
    private static String window(int width, int height, String... rows) {
        StringBuilder text = new StringBuilder();
        for (int row = 0; row < height; row++) {
            String shown = row < rows.length ? rows[row] : "";
            text.append(row == 0 ? "" : "|").append(shown).append("_".repeat(width - shown.length()));
        }
        return text.toString();
    }

    private void uppermostRow() {
        doc.says("WINDOWS", "If the cursor is in line c, the user looks back b lines, and its window has the height h, "
            + "the uppermost row of the window shows line c - b - h + 1, but line 0 if this is negative;");
        // the cursor is in line 3 of the lines a to d
        String[][] due = {{"d", "c", "b", "a", "a", "a"}, {"c", "b", "a", "a", "a", "a"}, {"a", "a", "a", "a", "a", "a"}};
        int[] heights = {1, 2, 4};
        for (int i = 0; i < 3; i++) {
            for (int back = 0; back < 6; back++) {
                SharedConsole x = Setups.watching("a/b/c/d");
                x.window(0, 4, heights[i]);
                x.lookBack(0, back);
                Check.due("height " + heights[i] + ", " + back + " back", Texts.window(x, 0).substring(0, 1), due[i][back]);
            }
        }
        SharedConsole x = Setups.watching("a/b/c/d");
        x.lookBack(0, 40);
        Check.due("40 back", Texts.window(x, 0), window(4, 2, "a", "b"));
        SharedConsole y = Setups.watching("a/b#");
        y.window(0, 4, 1);
        Check.due("the cursor's line, not the lowest one", Texts.window(y, 0) + y.cursorRow(0), "____0");
        Texts.type(y, 0, "x");
        Check.due("which is line 0", Texts.window(y, 0), "x___");
    }

    private void rowsAndColumns() {
        doc.says("WINDOWS", "the other rows show the lines that follow; rows behind the last line are empty.");
        SharedConsole x = Setups.watching("a/b/c/d");
        x.window(0, 4, 3);
        Check.due("three lines", Texts.window(x, 0), window(4, 3, "b", "c", "d"));
        x.window(0, 4, 6);
        Check.due("four lines and two rows", Texts.window(x, 0), window(4, 6, "a", "b", "c", "d"));
        Check.due("which are empty", x.shown(0, 4, 0) * 100 + x.shown(0, 5, 3), SPACE * 101);
        doc.says("WINDOWS", "Columns are shown from 0 on, up to the width of the window; places right of a line's end "
            + "are empty.");
        SharedConsole y = Setups.watching("abcdefghij");
        y.window(0, 2, 3);
        Check.due("narrow", Texts.window(y, 0), window(2, 3, "ab", "ef", "ij"));
        y.window(0, 16, 3);
        Check.due("wide", Texts.window(y, 0), window(16, 3, "abcd", "efgh", "ij"));
        y.setSetting(SHRINK, 1);
        y.window(0, 3, 2);
        y.window(0, 4, 3);
        Check.due("lines of several lengths", Texts.window(y, 0), window(4, 3, "abcd", "efg", "ij"));
    }

    private static int rightSize(SharedConsole x, int session) {
        return x.rightSize(session, false) * 10 + x.rightSize(session, true);
    }

    private static int size(SharedConsole x, int session) {
        int last = x.session(session, 2);
        return x.screen(session, last, 0) * 10 + x.screen(session, last, 1);
    }

    private void rightSizes() {
        doc.says("SIZES", "The right size of a session is its own size if SHRINK is 0; otherwise its width is the "
            + "least one of its own width and those of the windows of all users who watch it LIVE, and its height "
            + "likewise.");
        SharedConsole x = Setups.watching("abc");
        x.attach(1, 0);
        x.attach(2, 0);
        Check.due("SHRINK is 0", rightSize(x, 0), 42);
        x.setSetting(SHRINK, 1);
        Check.due("the least window", rightSize(x, 0), 31);
        x.window(1, 16, 1);
        Check.due("its height alone", rightSize(x, 0), 41);
        x.window(0, 2, 6);
        Check.due("the width of one, the height of the other", rightSize(x, 0), 21);
        x.goTo(1, 0);
        Check.due("not of STOPPED", rightSize(x, 0), 22);
        x.replay(0, 0, 10);
        Check.due("not of REPLAYING, and never greater than its own", rightSize(x, 0), 42);
        x.attach(0, 1);
        Check.due("not of another session", rightSize(x, 0), 42);
        Check.due("but there", rightSize(x, 1), 23);
        x.detach(0);
        Check.due("nobody watches", rightSize(x, 1), 63);
    }

    private void sizedEvents() {
        doc.says("SIZES", "Behind each change, for each session in ascending order whose screen at its last position "
            + "does not have its right size, an event SIZED with the right size is recorded, unless it has 300 "
            + "events.");
        SharedConsole x = Texts.loaded("session s 4 2;session t 6 3;user a 3 2;user b 5 1;set shrink 1;");
        x.attach(0, 0);
        Check.due("attach", size(x, 0) * 10 + x.session(0, 2), 321);
        x.attach(0, 1);
        Check.due("attach, the session that it left", size(x, 0) * 10 + x.session(0, 2), 422);
        Check.due("attach, the session to which it came", size(x, 1) * 10 + x.session(1, 2), 321);
        x.goTo(0, 0);
        Check.due("goTo", size(x, 1) * 10 + x.session(1, 2), 632);
        x.goLive(0);
        Check.due("goLive", size(x, 1) * 10 + x.session(1, 2), 323);
        x.goLive(0);
        Check.due("none if the size is right", x.session(1, 2), 3);
        x.replay(0, 0, 10);
        Check.due("replay", size(x, 1) * 10 + x.session(1, 2), 634);
        x.goLive(0);
        x.window(0, 3, 1);
        Check.due("window", size(x, 1) * 10 + x.session(1, 2), 316);
        x.undo();
        Check.due("undone", size(x, 1) * 10 + x.session(1, 2), 325);
        x.window(0, 3, 1);
        Check.due("and once more", size(x, 1) * 10 + x.session(1, 2), 316);
        x.attach(1, 0);
        x.setSetting(SHRINK, 0);
        Check.due("setSetting, the one session", size(x, 0) * 10 + x.session(0, 2), 424);
        Check.due("setSetting, the other one", size(x, 1) * 10 + x.session(1, 2), 637);
        x.detach(0);
        Check.due("not if SHRINK is 0", x.session(1, 2), 7);
        x.setSetting(SHRINK, 1);
        x.detach(1);
        Check.due("detach", size(x, 0) * 10 + x.session(0, 2), 426);
        SharedConsole y = Setups.watching("");
        for (int i = 0; i < 50; i++) {
            Texts.type(y, 0, i < 49 ? "aaaaaa" : "aaaaa");
        }
        y.setSetting(SHRINK, 1);
        y.window(0, 2, 1);
        Check.due("with 299 events", size(y, 0) * 1000 + y.session(0, 2), 21300);
        y.window(0, 3, 2);
        Check.due("with 300 events", size(y, 0) * 1000 + y.session(0, 2), 21300);
    }

    private void user() {
        doc.says(14, "Returns a number of a user. ... 0: its window's width; 1: its window's height; 2: its way of "
            + "watching; 3: the session that it watches, ... 4: its position, ... 5: how many lines it looks back; 6: "
            + "the speed of its replay, 0 if it has none");
        SharedConsole x = recorded();
        x.lookBack(1, 40);
        x.replay(1, 0, 1000);
        x.attach(2, 1);
        int[][] due = {{4, 2, LIVE, 0, 4, 0, 0}, {3, 1, REPLAYING, 0, 2, 40, 1000}, {16, 6, LIVE, 1, 0, 0, 0}};
        for (int user = 0; user < 3; user++) {
            for (int what = 0; what < 7; what++) {
                Check.due("user " + user + ", what is " + what, x.user(user, what), due[user][what]);
            }
        }
        x.goTo(1, 1);
        Check.due("stopped", x.user(1, 2) * 100 + x.user(1, 4) * 10 + x.user(1, 6), STOPPED * 100 + 10);
        doc.says(14, "3: the session that it watches, NOT_FOUND if it watches none; 4: its position, NOT_FOUND if it "
            + "watches none;");
        SharedConsole y = Texts.loaded("session s 4 2;user a 4 2;");
        Check.due("at first", y.user(0, 3) * 10 + y.user(0, 4), -11);
        Check.due("looks back no lines at first", y.user(0, 5), 0);
        y.attach(0, 0);
        Check.due("session 0, position 0", y.user(0, 3) * 10 + y.user(0, 4), 0);
        y.replay(0, 0, 10);
        y.detach(0);
        Check.due("not any more", y.user(0, 3) * 10 + y.user(0, 4), -11);
        Check.due("no replay either", y.user(0, 2) * 10 + y.user(0, 6), 0);
        doc.says(14, "Returns the number; BAD_VALUE for any other what.");
        for (int what : new int[] {-1, 7, LEAST, MOST}) {
            Check.due("what is " + what, x.user(0, what), BAD_VALUE);
        }
        doc.says(14, THROWS_FOR_USER + " (checked first)");
        Check.dueThrow("user", user -> x.user(user, 0), NO_USERS);
        Check.dueThrow("with a wrong what, user", user -> x.user(user, 7), NO_USERS);
    }

    private void shown() {
        doc.says(15, "Returns what is at a place of the window of a user (see WINDOWS). ... - `column`: a column, 0 "
            + "for the leftmost one");
        SharedConsole x = Setups.watching("abcdefghij_");
        Check.due("uppermost and leftmost", x.shown(0, 0, 0), 5);
        Check.due("uppermost and rightmost", x.shown(0, 0, 3), 8);
        Check.due("lowest and leftmost", x.shown(0, 1, 0), 9);
        doc.says(15, "Returns the symbol, SPACE where there is nothing;");
        Check.due("a symbol", x.shown(0, 1, 1), 10);
        Check.due("SPACE itself", x.shown(0, 1, 2), SPACE);
        Check.due("nothing there", x.shown(0, 1, 3), SPACE);
        x.attach(2, 0);
        Check.due("right of a line", x.shown(2, 0, 4), SPACE);
        Check.due("the last column", x.shown(2, 0, 15), SPACE);
        Check.due("below the last line", x.shown(2, 3, 0), SPACE);
        Check.due("the last place", x.shown(2, 5, 15), SPACE);
        doc.says(15, "NOT_FOUND if the window has no such place or the user watches nothing.");
        for (int wrong : new int[] {-1, 16, LEAST, MOST}) {
            Check.due("row " + wrong, x.shown(2, wrong, 0), NOT_FOUND);
            Check.due("column " + wrong, x.shown(2, 0, wrong), NOT_FOUND);
        }
        Check.due("row 6 of six", x.shown(2, 6, 0), NOT_FOUND);
        Check.due("row 2 of two", x.shown(0, 2, 0), NOT_FOUND);
        Check.due("column 4 of four", x.shown(0, 0, 4), NOT_FOUND);
        Check.due("watches nothing", x.shown(1, 0, 0), NOT_FOUND);
        x.detach(2);
        Check.due("watches nothing any more", x.shown(2, 0, 0), NOT_FOUND);
        doc.says(15, THROWS_FOR_USER);
        Check.dueThrow("user", user -> x.shown(user, 0, 0), NO_USERS);
        Check.dueThrow("with no such place, user", user -> x.shown(user, -1, 0), NO_USERS);
    }

    private void cursorRow() {
        doc.says(16, "Returns the row of a window in which the cursor is (see WINDOWS). ... - `user`: index of a user");
        SharedConsole x = Setups.watching("a/b/c/d");
        x.attach(1, 0);
        x.attach(2, 0);
        Check.due("the lowest of two", x.cursorRow(0), 1);
        Check.due("the only one", x.cursorRow(1), 0);
        Check.due("all lines are shown", x.cursorRow(2), 3);
        x.lookBack(2, 40);
        Check.due("from line 0 all the same", x.cursorRow(2), 3);
        x.goTo(2, 3);
        Check.due("at position 3", x.cursorRow(2), 1);
        x.goTo(2, 0);
        Check.due("at position 0", x.cursorRow(2), 0);
        doc.says(16, "Returns the row; NOT_FOUND if it is not in the window, or the user watches nothing.");
        x.lookBack(0, 1);
        Check.due("below the window", x.cursorRow(0), NOT_FOUND);
        x.window(0, 4, 3);
        Check.due("just below it", x.cursorRow(0), NOT_FOUND);
        x.window(0, 4, 4);
        Check.due("in the last row", x.cursorRow(0), 3);
        x.lookBack(1, 40);
        Check.due("far below it", x.cursorRow(1), NOT_FOUND);
        x.detach(2);
        Check.due("watches nothing", x.cursorRow(2), NOT_FOUND);
        doc.says(16, THROWS_FOR_USER);
        Check.dueThrow("user", user -> x.cursorRow(user), NO_USERS);
    }

    private void watchers() {
        doc.says(17, "Returns the users who watch a session in some way. ... Returns the users as a bit set: bit u is "
            + "1 for user u;");
        SharedConsole x = Texts.loaded("session s 4 2;session t 6 3;user a 4 2;user b 3 1;user c 16 6;user d 2 1;"
            + "user e 2 1;user f 2 1;");
        for (int user = 0; user < 6; user++) {
            x.attach(user, 0);
        }
        x.goTo(1, 0);
        x.replay(2, 0, 10);
        x.attach(3, 1);
        x.detach(4);
        Check.due("LIVE", x.watchers(0, LIVE), 1 | 1 << 5);
        Check.due("STOPPED", x.watchers(0, STOPPED), 1 << 1);
        Check.due("REPLAYING", x.watchers(0, REPLAYING), 1 << 2);
        Check.due("the other session", x.watchers(1, LIVE), 1 << 3);
        Check.due("nobody in these ways", x.watchers(1, STOPPED) + x.watchers(1, REPLAYING), 0);
        doc.says(17, "0 for any other way.");
        for (int way : new int[] {NOTHING, -1, 4, LEAST, MOST}) {
            Check.due("way " + way, x.watchers(0, way), 0);
        }
        doc.says(17, THROWS_FOR_SESSION);
        Check.dueThrow("session", session -> x.watchers(session, LIVE), NO_SESSIONS);
        Check.dueThrow("with another way, session", session -> x.watchers(session, NOTHING), NO_SESSIONS);
    }

    private void rightSize() {
        doc.says(18, "Returns the width or height that a session should have now (see SIZES). ... - `height`: true for "
            + "the height, false for the width\nReturns the number of rows or columns.");
        SharedConsole x = Setups.watching("abc");
        Check.due("its own", rightSize(x, 0) * 100 + rightSize(x, 1), 4263);
        x.setSetting(SHRINK, 1);
        x.attach(1, 0);
        Check.due("the least", rightSize(x, 0), 31);
        for (int i = 0; i < 50; i++) {
            Texts.type(x, 0, "a".repeat(i < 49 ? 6 : 2));
        }
        x.window(1, 2, 2);
        Check.due("also if no event can tell it", size(x, 0) * 100 + rightSize(x, 0), 3122);
        doc.says(18, THROWS_FOR_SESSION);
        Check.dueThrow("width, session", session -> x.rightSize(session, false), NO_SESSIONS);
        Check.dueThrow("height, session", session -> x.rightSize(session, true), NO_SESSIONS);
    }

    private static int narrowest(SharedConsole x) {
        return x.narrowest(0, false) * 10 + x.narrowest(0, true);
    }

    private void narrowest() {
        doc.says(19, "Returns the user whose window makes a session narrower, or lower, if SHRINK is 1 (whatever it "
            + "is): the one, of those who watch it LIVE, with the narrowest or lowest window, if this is less than the "
            + "session's own width or height.");
        SharedConsole x = Setups.watching("abc");
        x.attach(2, 0);
        Check.due("the same size and a greater one", narrowest(x), -11);
        x.window(2, 3, 6);
        Check.due("narrower by one", narrowest(x), 20 + NOT_FOUND);
        x.window(2, 16, 1);
        Check.due("lower by one", narrowest(x), -10 + 2);
        x.attach(1, 0);
        x.window(1, 2, 2);
        Check.due("one of each", narrowest(x), 12);
        x.setSetting(SHRINK, 1);
        Check.due("whatever SHRINK is", narrowest(x), 12);
        x.goTo(1, 0);
        Check.due("STOPPED does not count", narrowest(x), -10 + 2);
        x.attach(2, 1);
        Check.due("nor does who watches another session", narrowest(x), -11);
        doc.says(19, "Ties are broken by lower index. ... - `height`: true for the height, false for the width");
        SharedConsole y = Setups.watching("abc");
        y.attach(1, 0);
        y.attach(2, 0);
        y.window(1, 2, 1);
        y.window(2, 2, 1);
        Check.due("of 1 and 2", narrowest(y), 11);
        y.window(0, 2, 1);
        Check.due("of all", narrowest(y), 0);
        doc.says(19, "Returns the index of the user; NOT_FOUND if there is none.");
        Check.due("nobody watches", y.narrowest(1, false) + y.narrowest(1, true), 2 * NOT_FOUND);
        doc.says(19, THROWS_FOR_SESSION);
        Check.dueThrow("width, session", session -> x.narrowest(session, false), NO_SESSIONS);
        Check.dueThrow("height, session", session -> x.narrowest(session, true), NO_SESSIONS);
    }

    private void reachedAt() {
        doc.says(22, "Returns the time at which the replay of a user reaches a position: the start of the replay plus "
            + "the fewest ticks by which what is said of REPLAYS holds for all events ahead of the position. ... 0 to "
            + "the number of events of the session");
        SharedConsole x = recorded();
        int[][] due = {{0, 100, 20, 20, 20, 30, 35}, {0, 30, 20, 20, 20, 54, 70}, {0, 1000, 20, 20, 20, 21, 22},
            {0, 10, 20, 20, 20, 120, 170}, {0, 27, 20, 20, 20, 58, 76}, {1, 77, NOT_FOUND, 20, 20, 33, 40},
            {2, 99, NOT_FOUND, NOT_FOUND, 20, 20, 26}, {3, 10, NOT_FOUND, NOT_FOUND, NOT_FOUND, 20, 20},
            {4, 10, NOT_FOUND, NOT_FOUND, NOT_FOUND, NOT_FOUND, 20}};
        for (int[] one : due) {
            x.replay(1, one[0], one[1]);
            for (int position = 0; position <= 4; position++) {
                String what = "from " + one[0] + " at " + one[1] + " percent, position " + position;
                Check.due(what, x.reachedAt(1, position), one[position + 2]);
            }
        }
        doc.says(22, "Returns the time, possibly in the past;");
        x.replay(1, 0, 30);
        Check.due("to come", x.reachedAt(1, 3), 54);
        Check.due("just not yet and then", positions(x, 1, 33, 1, 15, 1), "2334");
        x.pass(10);
        Check.due("in the past", x.reachedAt(1, 3), 54);
        doc.says(22, "NOT_FOUND if the user does not replay, the position is before the one from which it replays, or "
            + "the session has no such position.");
        for (int position : new int[] {-1, 5, 300, LEAST, MOST}) {
            Check.due("position " + position, x.reachedAt(1, position), NOT_FOUND);
        }
        Check.due("LIVE", x.reachedAt(0, 4), NOT_FOUND);
        Check.due("watches nothing", x.reachedAt(2, 0), NOT_FOUND);
        x.replay(1, 3, 10);
        Check.due("before", x.reachedAt(1, 2) * 100 + x.reachedAt(1, 0), -101);
        x.goTo(1, 3);
        Check.due("STOPPED", x.reachedAt(1, 3), NOT_FOUND);
        doc.says(22, THROWS_FOR_USER);
        Check.dueThrow("user", user -> x.reachedAt(user, 0), NO_USERS);
        Check.dueThrow("with no such position, user", user -> x.reachedAt(user, -1), NO_USERS);
    }

    private void reachedLate() {
        doc.says(22, "the start of the replay plus the fewest ticks");
        SharedConsole x = Setups.watching("a");
        for (int i = 0; i < 20; i++) {
            x.pass(i < 19 ? 500 : 499);
        }
        Texts.type(x, 0, "b");
        x.attach(1, 0);
        x.replay(1, 0, 10);
        Check.due("later than all times", x.reachedAt(1, 2), 9999 + 99990);
        Check.due("so it is not reached", x.user(1, 4), 1);
        x.replay(1, 0, 1000);
        Check.due("ten times as fast", x.reachedAt(1, 2), 9999 + 1000);
    }

    private void behind() {
        doc.says(23, "Returns how many events a user is behind its session. ... - `user`: index of a user");
        SharedConsole x = recorded();
        Check.due("LIVE", x.behind(1), 0);
        x.goTo(1, 1);
        Check.due("STOPPED", x.behind(1), 3);
        x.goTo(1, 4);
        Check.due("STOPPED at the last position", x.behind(1), 0);
        x.replay(1, 0, 100);
        Check.due("REPLAYING", x.behind(1), 2);
        x.pass(10);
        Check.due("a little later", x.behind(1), 1);
        Texts.type(x, 0, "ef");
        Check.due("two came", x.behind(1), 3);
        doc.says(23, "Returns the number of events, 0 if it watches nothing.");
        Check.due("never watched", x.behind(2), 0);
        x.detach(1);
        Check.due("not any more", x.behind(1), 0);
        doc.says(23, THROWS_FOR_USER);
        Check.dueThrow("user", user -> x.behind(user), NO_USERS);
    }

    private void attach() {
        doc.says(29, "Lets a user watch a session, LIVE, looking back no lines; ... - `session`: index of a session");
        SharedConsole x = Setups.watching("abc");
        x.lookBack(0, 3);
        x.attach(1, 0);
        x.goTo(1, 0);
        x.attach(1, 0);
        Check.due("LIVE", x.user(1, 2) * 100 + x.user(1, 3) * 10 + x.user(1, 4), 103);
        x.attach(0, 0);
        Check.due("no lines", x.user(0, 5), 0);
        doc.says(29, "if it watched another one or this one, it leaves that first (see WATCHING).");
        Check.due("this one", x.session(0, 3), NOT_FOUND);
        x.request(0);
        x.attach(0, 1);
        Check.due("another one", x.session(0, 3) * 10 + x.watchers(0, LIVE), -10 + 2);
        x.request(0);
        x.attach(1, 1);
        x.request(1);
        x.attach(0, 1);
        Check.due("who asked has its control", x.session(1, 3) * 10 + x.session(1, 4), 10 + NOT_FOUND);
        doc.says(29, "Returns the number of users who watch this session then; NOT_FOUND if user or session is not a "
            + "valid index.");
        SharedConsole y = Setups.watching("abc");
        Check.due("one", y.attach(2, 1), 1);
        Check.due("two", y.attach(2, 0), 2);
        y.goTo(2, 0);
        y.goTo(0, 0);
        Check.due("also those who are not LIVE", y.attach(1, 0), 3);
        Check.due("itself is counted once", y.attach(1, 0), 3);
        int changes = y.undoCount();
        for (int wrong : NO_USERS) {
            Check.due("user " + wrong, y.attach(wrong, 0), NOT_FOUND);
            Check.due("both " + wrong, y.attach(wrong, wrong), NOT_FOUND);
        }
        for (int wrong : NO_SESSIONS) {
            Check.due("session " + wrong, y.attach(0, wrong), NOT_FOUND);
        }
        Check.due("no change", y.undoCount(), changes);
        Check.due("nobody and nothing", new SharedConsole().attach(0, 0), NOT_FOUND);
    }

    private void detach() {
        doc.says(30, "Lets a user watch nothing any more. ... - `user`: index of a user");
        SharedConsole x = Setups.watching("abc");
        x.attach(1, 0);
        x.attach(2, 0);
        x.request(1);
        x.goTo(2, 0);
        int left = x.detach(0);
        Check.due("it watches nothing", x.user(0, 2) * 10 + x.count(2), 2);
        Check.due("who asked has its control", x.session(0, 3), 1);
        doc.says(30, "Returns the number of users who watch that session then;");
        Check.due("two are left", left, 2);
        Check.due("one is left", x.detach(1), 1);
        Check.due("none is left", x.detach(2), 0);
        x.attach(0, 1);
        x.attach(1, 0);
        Check.due("not those of another session", x.detach(0), 0);
        doc.says(30, NO_USER);
        for (int wrong : NO_USERS) {
            Check.due("user " + wrong, x.detach(wrong), NOT_FOUND);
        }
        doc.says(30, NO_WATCHER + " " + IN_THIS_ORDER);
        Check.due("again", x.detach(0), NOT_ALLOWED);
        Check.due("never", Setups.watching("").detach(1), NOT_ALLOWED);
    }

    private void goTo() {
        doc.says(31, "Lets a user stop at a position of its session (see WATCHING). ... - `position`: a position, 0 to "
            + "the number of events of the session");
        SharedConsole x = recorded();
        x.goTo(1, 0);
        Check.due("position 0", x.user(1, 2) * 10 + x.user(1, 4), STOPPED * 10);
        x.goTo(1, 4);
        Texts.type(x, 0, "e");
        Check.due("the last position", x.user(1, 2) * 10 + x.user(1, 4), STOPPED * 10 + 4);
        doc.says(31, "Returns the previous position;");
        Check.due("from STOPPED", x.goTo(1, 1), 4);
        Check.due("from there", x.goTo(1, 2), 1);
        x.replay(1, 0, 10);
        Check.due("from REPLAYING", x.goTo(1, 1), 2);
        Check.due("from LIVE", x.goTo(0, 1), 5);
        doc.says(31, NO_USER);
        for (int wrong : NO_USERS) {
            Check.due("user " + wrong, x.goTo(wrong, 0), NOT_FOUND);
            Check.due("first of all, user " + wrong, x.goTo(wrong, -1), NOT_FOUND);
        }
        doc.says(31, NO_WATCHER);
        Check.due("watches nothing", x.goTo(2, 0), NOT_ALLOWED);
        doc.says(31, "BAD_VALUE if position is out of range; " + IN_THIS_ORDER);
        for (int wrong : new int[] {-1, 6, 300, LEAST, MOST}) {
            Check.due("position " + wrong, x.goTo(1, wrong), BAD_VALUE);
            Check.due("watches nothing, position " + wrong, x.goTo(2, wrong), NOT_ALLOWED);
        }
        Check.due("it stays", x.user(1, 4), 1);
    }

    private void goLive() {
        doc.says(32, "Lets a user watch its session LIVE. ... - `user`: index of a user");
        SharedConsole x = recorded();
        x.goTo(1, 1);
        int previous = x.goLive(1);
        Check.due("LIVE then", x.user(1, 2) * 10 + x.user(1, 4), LIVE * 10 + 4);
        doc.says(32, "Returns the previous position;");
        Check.due("from STOPPED", previous, 1);
        Check.due("from LIVE", x.goLive(1), 4);
        x.replay(1, 0, 10);
        Check.due("from REPLAYING", x.goLive(1), 2);
        Check.due("no replay then", x.user(1, 6), 0);
        doc.says(32, NO_USER);
        for (int wrong : NO_USERS) {
            Check.due("user " + wrong, x.goLive(wrong), NOT_FOUND);
        }
        doc.says(32, NO_WATCHER + " " + IN_THIS_ORDER);
        Check.due("watches nothing", x.goLive(2), NOT_ALLOWED);
        x.detach(1);
        Check.due("not any more", x.goLive(1), NOT_ALLOWED);
    }

    private void replay() {
        doc.says(33, "Lets a user watch a replay of its session (see REPLAYS). ... - `from`: the position from which "
            + "it replays");
        SharedConsole x = recorded();
        x.replay(0, 0, 10);
        Check.due("its way", x.user(0, 2) * 100 + x.user(0, 6), REPLAYING * 100 + 10);
        Check.due("loses control", x.session(0, 3), NOT_FOUND);
        doc.says(33, "Returns its position then;");
        for (int from = 0; from <= 4; from++) {
            Check.due("from " + from, x.replay(1, from, 100), from < 2 ? 2 : Math.min(from + 1, 4));
        }
        doc.says(33, NO_USER);
        for (int wrong : NO_USERS) {
            Check.due("user " + wrong, x.replay(wrong, 0, 100), NOT_FOUND);
            Check.due("first of all, user " + wrong, x.replay(wrong, -1, 0), NOT_FOUND);
        }
        doc.says(33, NO_WATCHER);
        Check.due("watches nothing", x.replay(2, 0, 100), NOT_ALLOWED);
        Check.due("ahead of what is out of range", x.replay(2, -1, 0), NOT_ALLOWED);
    }

    private void replaySpeeds() {
        doc.says(33, "- `speed`: 10 to 1000, percent");
        SharedConsole x = recorded();
        for (int speed : new int[] {10, 100, 1000}) {
            x.replay(1, 0, speed);
            Check.due("speed", x.user(1, 6), speed);
        }
        doc.says(33, "BAD_VALUE if speed is out of range or the session has no such position; " + IN_THIS_ORDER);
        for (int speed : new int[] {9, 1001, 0, -10, LEAST, MOST}) {
            Check.due("speed " + speed, x.replay(1, 0, speed), BAD_VALUE);
        }
        for (int from : new int[] {-1, 5, 300, LEAST, MOST}) {
            Check.due("from " + from, x.replay(1, from, 100), BAD_VALUE);
            Check.due("LIVE, from " + from, x.replay(0, from, 100), BAD_VALUE);
        }
        Check.due("all stays", x.user(0, 2) * 10000 + x.session(0, 3) * 10 + x.user(1, 6), LIVE * 10000 + 1000);
    }

    private void lookBack() {
        doc.says(34, "Lets a user look back. ... - `lines`: 0 to 40");
        SharedConsole x = Setups.watching("abc");
        x.lookBack(0, 40);
        Check.due("40", x.user(0, 5), 40);
        doc.says(34, "Returns the lines that it looked back before;");
        Check.due("40 before", x.lookBack(0, 0), 40);
        Check.due("0 before", x.lookBack(0, 1), 0);
        Check.due("1 before", x.lookBack(0, 1), 1);
        doc.says(34, NO_USER);
        for (int wrong : NO_USERS) {
            Check.due("user " + wrong, x.lookBack(wrong, 0), NOT_FOUND);
            Check.due("first of all, user " + wrong, x.lookBack(wrong, 41), NOT_FOUND);
        }
        doc.says(34, NO_WATCHER);
        Check.due("watches nothing", x.lookBack(1, 0), NOT_ALLOWED);
        doc.says(34, "BAD_VALUE if lines is out of range; " + IN_THIS_ORDER);
        for (int wrong : new int[] {-1, 41, LEAST, MOST}) {
            Check.due("lines " + wrong, x.lookBack(0, wrong), BAD_VALUE);
            Check.due("watches nothing, lines " + wrong, x.lookBack(1, wrong), NOT_ALLOWED);
        }
        Check.due("it stays", x.user(0, 5), 1);
    }

    private void window() {
        doc.says(35, "Sets the window of a user. ... - `width`: 2 to 16\n- `height`: 1 to 6");
        SharedConsole x = Texts.loaded("user a 2 1;user b 3 2;session s 2 2;session t 2 1;session u 2 1;");
        x.window(1, 16, 6);
        Check.due("greatest", x.user(1, 0) * 10 + x.user(1, 1), 166);
        x.window(1, 2, 1);
        Check.due("least", x.user(1, 0) * 10 + x.user(1, 1), 21);
        doc.says(35, "Returns the previous width;");
        Check.due("2", x.window(1, 7, 3), 2);
        Check.due("7", x.window(1, 8, 3), 7);
        doc.says(35, NO_USER);
        for (int wrong : new int[] {-1, 2, 3, LEAST, MOST}) {
            Check.due("user " + wrong, x.window(wrong, 2, 1), NOT_FOUND);
            Check.due("first of all, user " + wrong, x.window(wrong, 1, 0), NOT_FOUND);
        }
        doc.says(35, "BAD_VALUE if width or height is out of range; " + IN_THIS_ORDER);
        for (int width : new int[] {1, 17, 0, LEAST, MOST}) {
            Check.due("width " + width, x.window(1, width, 6), BAD_VALUE);
        }
        for (int height : new int[] {0, 7, -1, LEAST, MOST}) {
            Check.due("height " + height, x.window(1, 16, height), BAD_VALUE);
        }
        Check.due("it stays", x.user(1, 0) * 10 + x.user(1, 1), 83);
    }

    private void write() {
        doc.says(43, "Writes the window of a user to the output buffer, replacing its content: for each row all "
            + "columns (a space for SPACE) and a newline (10) behind each row;");
        SharedConsole x = Setups.watching("a_z_bc/y");
        x.attach(2, 0);
        String rows = "a z " + " ".repeat(12) + "\nbc" + " ".repeat(14) + "\ny" + " ".repeat(15) + "\n";
        Check.due("the greatest window", Texts.written(x, 2), rows + (" ".repeat(16) + "\n").repeat(3));
        x.attach(1, 0);
        x.window(1, 2, 1);
        Check.due("the least window", Texts.written(x, 1), "y \n");
        Check.due("nothing else is left", x.outputAt(3), NOT_FOUND);
        doc.says(43, "nothing if the user watches nothing. ... - `user`: index of a user");
        x.detach(1);
        Check.due("none", x.write(1), 0);
        Check.due("the former content is gone", x.outputAt(0), NOT_FOUND);
        doc.says(43, "Returns the number of characters.");
        Check.due("102", x.write(2), 102);
        Check.due("10", x.write(0), 10);
        doc.says(43, THROWS_FOR_USER);
        Check.dueThrow("user", user -> x.write(user), NO_USERS);
        Check.due("the output stays", Texts.output(x, 10), "bc  \ny   \n");
    }

    private void outputAt() {
        doc.says(44, "Returns a character of the output buffer. ... - `index`: index of the character, from 0");
        SharedConsole x = Setups.watching("ab/z");
        x.write(0);
        Check.due("first", x.outputAt(0), (int) 'a');
        Check.due("second", x.outputAt(1), (int) 'b');
        Check.due("a space", x.outputAt(2), 32);
        Check.due("a newline", x.outputAt(4), 10);
        Check.due("the other row", x.outputAt(5), (int) 'z');
        Check.due("last", x.outputAt(9), 10);
        doc.says(44, "Returns the character; NOT_FOUND if there is none with that index.");
        for (int wrong : new int[] {-1, 10, 102, LEAST, MOST}) {
            Check.due("index " + wrong, x.outputAt(wrong), NOT_FOUND);
        }
        Check.due("nothing was written", new SharedConsole().outputAt(0), NOT_FOUND);
        x.window(0, 16, 6);
        x.write(0);
        Check.due("the last of the greatest window", x.outputAt(101) * 10 + x.outputAt(102), 100 + NOT_FOUND);
    }
}

/** Sentences about events, symbols and screens, and those of promises 9 to 13 and 24 to 27. */
final class ScreenSentences {
    private static final int NOT_FOUND = SharedConsole.NOT_FOUND, BAD_VALUE = SharedConsole.BAD_VALUE;
    private static final int SHRINK = SharedConsole.SHRINK, SPACE = SharedConsole.SPACE;
    private static final int MOST = Integer.MAX_VALUE, LEAST = Integer.MIN_VALUE;
    private static final String RETURNS_NUMBER = "Returns the number; BAD_VALUE for any other what.";
    private static final String THROWS_FOR_PLACE = "Throws `IndexOutOfBoundsException` if session is not a valid index or "
        + "position is out of range";

    private final Doc doc;

    ScreenSentences(Doc doc) {
        this.doc = doc;
    }

    void check() {
        events();
        positions();
        writing();
        controlSymbols();
        goingDown();
        linesUp();
        widths();
        heights();
        longLines();
        session();
        event();
        screen();
        at();
        above();
        words();
        noWords();
        differences();
        fullness();
        typedBy();
    }

    /** The screen of a session of this size on which this was typed. */
    private static String typed(int width, int height, String keys) {
        SharedConsole x = Setups.typing(width, height);
        Texts.type(x, 0, keys);
        return Texts.screen(x, 0);
    }

    private static void shows(int width, int height, String keys, String screen) {
        Check.due(width + " by " + height + ", " + keys.replace("\r", "\\r"), typed(width, height, keys), screen);
    }

    private void events() {
        doc.says("EVENTS AND SYMBOLS", "An event is TYPED, with a symbol, or SIZED, with a width and a height.");
        SharedConsole x = Texts.loaded("session s 4 2;user a 3 1;");
        x.attach(0, 0);
        x.request(0);
        x.pass(5);
        Texts.type(x, 0, "b");
        x.pass(4);
        x.setSetting(SHRINK, 1);
        Check.due("TYPED", x.event(0, 0, 0), SharedConsole.TYPED);
        Check.due("its symbol", x.event(0, 0, 1), 2);
        Check.due("SIZED", x.event(0, 1, 0), SharedConsole.SIZED);
        Check.due("its width and height", x.event(0, 1, 1) * 10 + x.event(0, 1, 2), 31);
        doc.says("EVENTS AND SYMBOLS", "It has the time at which it came.");
        Check.due("of TYPED", x.event(0, 0, 3), 5);
        Check.due("of SIZED", x.event(0, 1, 3), 9);
        doc.says("EVENTS AND SYMBOLS", "Symbols are 1 to 26 for the letters a to z, SPACE (27), NEWLINE (28), RETURN "
            + "(29), BACK (30) and CLEAR (31).");
        SharedConsole y = Setups.typing(16, 6);
        for (int symbol = 1; symbol <= 31; symbol++) {
            y.type(0, symbol << 25);
            Check.due("symbol " + symbol, y.event(0, symbol - 1, 1), symbol);
        }
        String letters = "abcdefghijklmnop|qrstuvwxyz______" + "|________________".repeat(4);
        Check.due("the letters", Texts.screen(y, 0, 26), letters + " 1,10");
        Check.due("SPACE", Texts.screen(y, 0, 27).endsWith(" 1,11"), true);
        Check.due("NEWLINE", Texts.screen(y, 0, 28).endsWith(" 2,0"), true);
        Check.due("CLEAR", y.fullness(0, 30) > 0 && y.fullness(0, 31) == 0, true);
        y.goTo(0, 26);
        y.write(0);
        Check.due("as characters", Texts.output(y, 27), "abcdefghijklmnop\nqrstuvwxyz");
    }

    private void positions() {
        doc.says("EVENTS AND SYMBOLS", "A position of a session is a number of events: at position p the events 0 to p "
            + "- 1 have come.");
        SharedConsole x = Setups.typing(4, 1);
        Texts.type(x, 0, "ab<");
        String[] screens = {"____ 0,0", "a___ 0,1", "ab__ 0,2", "ab__ 0,1"};
        for (int p = 0; p <= 3; p++) {
            Check.due("position " + p, Texts.screen(x, 0, p), screens[p]);
        }
        doc.says("SCREENS", "At position 0 the screen has the session's own size, is empty (SPACE everywhere), and its "
            + "cursor is in row 0, column 0.");
        SharedConsole y = Texts.loaded("session s 4 2;session t 16 6;session u 2 1;user a 3 1;set shrink 1;");
        y.attach(0, 0);
        Check.due("also when it gets smaller at once", Texts.screen(y, 0), "___ 0,0");
        Check.due("its own size", Texts.screen(y, 0, 0), "____|____ 0,0");
        Check.due("the greatest", Texts.screen(y, 1, 0), "________________" + "|________________".repeat(5) + " 0,0");
        Check.due("the least", Texts.screen(y, 2, 0), "__ 0,0");
        Check.due("no lines went up", y.screen(0, 0, 4) + y.screen(1, 0, 4), 0);
    }

    private void writing() {
        doc.says("SCREENS", "A letter or SPACE is written at the cursor, and the cursor goes one column to the right;");
        shows(4, 2, "az", "az__|____ 0,2");
        shows(4, 2, "a_b", "a_b_|____ 0,3");
        shows(4, 2, "abc\rz", "zbc_|____ 0,1");
        shows(4, 2, "abc\r_", "_bc_|____ 0,1");
        doc.says("SCREENS", "behind the last column it goes down (see below) to column 0.");
        shows(4, 2, "abc", "abc_|____ 0,3");
        shows(4, 2, "abcd", "abcd|____ 1,0");
        shows(4, 2, "abc_", "abc_|____ 1,0");
        shows(4, 2, "abcdefgh", "efgh|____ 1,0");
        shows(2, 1, "ab", "__ 0,0");
        shows(2, 1, "a", "a_ 0,1");
        shows(16, 2, "abcdefghijklmno", "abcdefghijklmno_|________________ 0,15");
        shows(16, 2, "abcdefghijklmnop", "abcdefghijklmnop|________________ 1,0");
    }

    private void controlSymbols() {
        doc.says("SCREENS", "NEWLINE: the cursor goes down, to column 0.");
        shows(4, 3, "ab/", "ab__|____|____ 1,0");
        shows(4, 3, "/", "____|____|____ 1,0");
        shows(4, 3, "ab/c/", "ab__|c___|____ 2,0");
        shows(4, 3, "ab/c//", "c___|____|____ 2,0");
        shows(4, 2, "abcd/", "____|____ 1,0");
        doc.says("SCREENS", "RETURN: it goes to column 0 of its row.");
        shows(4, 2, "abc\r", "abc_|____ 0,0");
        shows(4, 2, "ab/c\r", "ab__|c___ 1,0");
        shows(4, 2, "\r", "____|____ 0,0");
        doc.says("SCREENS", "BACK: it goes one column to the left, if it is not in column 0 (nothing is erased).");
        shows(4, 2, "abc<", "abc_|____ 0,2");
        shows(4, 2, "abc<<<", "abc_|____ 0,0");
        shows(4, 2, "abc<<<<", "abc_|____ 0,0");
        shows(4, 2, "ab/<", "ab__|____ 1,0");
        shows(4, 2, "abcd<", "abcd|____ 1,0");
        doc.says("SCREENS", "CLEAR: everything becomes empty, and the cursor goes to row 0, column 0; lines that went "
            + "up stay.");
        shows(4, 2, "#", "____|____ 0,0");
        shows(4, 2, "abcdef#", "____|____ 0,0");
        shows(2, 6, "a/b/c/d/e/f#", "__|__|__|__|__|__ 0,0");
        shows(4, 2, "abcdef#z", "z___|____ 0,1");
        SharedConsole x = Setups.typing(3, 2);
        Texts.type(x, 0, "ab/cd/e#");
        Check.due("a line that went up", Texts.above(x, 0, 8, 0), "ab" + "_".repeat(14));
        Check.due("no other did", x.screen(0, 8, 4), 1);
        SharedConsole y = manyLines();
        Texts.type(y, 0, "#");
        Check.due("all that are kept", keptLines(y), MANY_LINES);
    }

    /** The lines that are kept of what manyLines types: 1 to 40, the first letters of which go on from b. */
    private static final String MANY_LINES = "bcdefghijklmnopqrstuvwxyzabcdefghijklmno" + "z".repeat(40);

    /** A session of the greatest height with as many lines above as are kept, one more having gone up. */
    private static SharedConsole manyLines() {
        SharedConsole x = Setups.typing(4, 6);
        for (int line = 0; line < 46; line++) {
            Texts.type(x, 0, lineKey(line) + "yz/");
        }
        return x;
    }

    /** Column 0 of all lines that went up, then column 2. */
    private static String keptLines(SharedConsole x) {
        int events = x.session(0, 2);
        StringBuilder text = new StringBuilder();
        for (int column = 0; column < 4; column += 2) {
            for (int line = 0; line < 40; line++) {
                text.append((char) ('a' - 1 + x.above(0, events, line, column)));
            }
        }
        return text.toString();
    }

    private void goingDown() {
        doc.says("SCREENS", "Going down in the lowest row, the uppermost row goes up ... all others move up by one "
            + "row, and the lowest row is empty.");
        shows(3, 3, "a/b/c", "a__|b__|c__ 2,1");
        shows(3, 3, "a/b/c/", "b__|c__|___ 2,0");
        shows(3, 3, "a/b/cde", "b__|cde|___ 2,0");
        shows(3, 3, "a/b/c//", "c__|___|___ 2,0");
        shows(3, 1, "ab/", "___ 0,0");
        SharedConsole x = Setups.typing(3, 3);
        Texts.type(x, 0, "a/b/c/d/");
        Check.due("before", x.screen(0, 5, 4), 0);
        Check.due("the first", x.screen(0, 6, 4) * 100 + x.above(0, 6, 0, 0), 101);
        Check.due("not with a row below", x.screen(0, 7, 4), 1);
        Check.due("the second is later", x.above(0, 8, 0, 0) * 10 + x.above(0, 8, 1, 0), 12);
    }

    private void linesUp() {
        doc.says("SCREENS", "(it is the latest of the lines that went up; of these the latest 40 are kept)");
        SharedConsole x = Setups.typing(2, 1);
        for (int line = 0; line < 150; line += 3) {
            Texts.type(x, 0, lineKey(line) + "/" + lineKey(line + 1) + "/" + lineKey(line + 2) + "/");
        }
        for (int lines : new int[] {39, 40, 41, 150}) {
            int kept = Math.min(lines, 40);
            Check.due("kept of " + lines, x.screen(0, 2 * lines, 4), kept);
            for (int line = 0; line < kept; line++) {
                int symbol = lineKey(lines - kept + line) - 'a' + 1;
                Check.due("line " + line + " of " + lines, x.above(0, 2 * lines, line, 0), symbol);
            }
            Check.due("no further one of " + lines, x.above(0, 2 * lines, kept, 0), NOT_FOUND);
        }
    }

    private static char lineKey(int line) {
        return (char) ('a' + line % 26);
    }

    private void widths() {
        doc.says("SCREENS", "SIZED: first each row of the screen gets the new width (places to the right are lost, or "
            + "empty ones come)");
        SharedConsole x = Setups.typing(3, 6);
        Texts.type(x, 0, "abcdefghijklmnoa");
        Check.due("before", Texts.screen(x, 0), "abc|def|ghi|jkl|mno|a__ 5,1");
        x.setSetting(SHRINK, 1);
        x.window(0, 2, 6);
        Check.due("lost in each row", Texts.screen(x, 0), "ab|de|gh|jk|mn|a_ 5,1");
        x.window(0, 16, 6);
        Check.due("empty ones come", Texts.screen(x, 0), "ab_|de_|gh_|jk_|mn_|a__ 5,1");
        Check.due("no row went up", x.screen(0, 18, 4), 0);
        doc.says("SCREENS", ", and if the cursor's column is not less than this, it becomes the last one.");
        for (int column = 0; column < 4; column++) {
            SharedConsole y = Setups.typing(6, 2);
            Texts.type(y, 0, "abcde".substring(0, column) + "\r" + "abcde".substring(0, column));
            y.setSetting(SHRINK, 1);
            y.window(0, 2, 2);
            Check.due("column " + column + " of two", y.screen(0, y.session(0, 2), 3), column == 0 ? 0 : 1);
            Check.due("its row", y.screen(0, y.session(0, 2), 2), 0);
            y.window(0, 6, 2);
            Check.due("it stays", y.screen(0, y.session(0, 2), 3), column == 0 ? 0 : 1);
        }
    }

    /** A session 4 by 4 with these keys typed, which then gets this height. */
    private static SharedConsole lowered(String keys, int height) {
        SharedConsole x = Setups.typing(4, 4);
        Texts.type(x, 0, keys);
        x.setSetting(SHRINK, 1);
        x.window(0, 16, height);
        return x;
    }

    private void heights() {
        doc.says("SCREENS", "Then, as long as the cursor's row is not less than the new height, the uppermost row goes "
            + "up, and the cursor's row falls by one.");
        Check.due("row 3 of 4, height 3", Texts.screen(lowered("a/b/c/d", 3), 0), "b___|c___|d___ 2,1");
        Check.due("row 3 of 4, height 1", Texts.screen(lowered("a/b/c/d", 1), 0), "d___ 0,1");
        Check.due("row 2 of 4, height 3", Texts.screen(lowered("a/b/c", 3), 0), "a___|b___|c___ 2,1");
        Check.due("row 2 of 4, height 2", Texts.screen(lowered("a/b/c", 2), 0), "b___|c___ 1,1");
        Check.due("row 0 of 4, height 1", Texts.screen(lowered("a", 1), 0), "a___ 0,1");
        SharedConsole x = lowered("a/b/c/d", 2);
        Check.due("two went up", x.screen(0, 8, 4), 2);
        Check.due("in their order", x.above(0, 8, 0, 0) * 10 + x.above(0, 8, 1, 0), 12);
        Check.due("none for row 0", lowered("a", 1).screen(0, 2, 4), 0);
        doc.says("SCREENS", "Then rows below the new height are lost, or empty rows come at the bottom.");
        SharedConsole y = lowered("a/b", 2);
        Check.due("two are left", Texts.screen(y, 0), "a___|b___ 1,1");
        Check.due("none went up", y.screen(0, 4, 4), 0);
        y.window(0, 16, 6);
        Check.due("two came", Texts.screen(y, 0), "a___|b___|____|____ 1,1");
        SharedConsole z = lowered("a/b/c/d", 1);
        z.window(0, 16, 3);
        Check.due("lines that went up don't come back", Texts.screen(z, 0), "d___|____|____ 0,1");
        Texts.type(z, 0, "e/f/g/h");
        Check.due("down through the new rows", Texts.screen(z, 0), "f___|g___|h___ 2,1");
        Check.due("and further up", z.above(0, 16, 3, 0) * 100 + z.above(0, 16, 3, 1), 405);
    }

    private void longLines() {
        doc.says("SCREENS", "(Lines that went up before stay as long as they are.)");
        SharedConsole x = Setups.typing(4, 2);
        Texts.type(x, 0, "abcdefghijk");
        x.setSetting(SHRINK, 1);
        x.window(0, 2, 1);
        Check.due("this went up before", Texts.above(x, 0, 12, 0), "abcd" + "_".repeat(12));
        Check.due("this then, with the new width", Texts.above(x, 0, 12, 1), "ef" + "_".repeat(14));
        x.window(0, 4, 2);
        Check.due("also when it gets wide", Texts.above(x, 0, 13, 0), "abcd" + "_".repeat(12));
        Check.due("nothing comes back", Texts.above(x, 0, 13, 1), "ef" + "_".repeat(14));
        Check.due("nor here", Texts.screen(x, 0), "ij__|____ 0,1");
        SharedConsole y = manyLines();
        y.setSetting(SHRINK, 1);
        y.window(0, 2, 6);
        Check.due("all that are kept, narrower", keptLines(y), MANY_LINES);
        y.window(0, 16, 6);
        Check.due("all that are kept, wider", keptLines(y), MANY_LINES);
    }

    private void session() {
        doc.says(9, "Returns a number of a session. ... 5: the time at which this was asked");
        SharedConsole x = Texts.loaded("session s 5 3;session t 16 6;user a 4 2;user b 3 1;user c 2 1;user d 2 1;set shrink 1;");
        x.attach(1, 1);
        x.attach(2, 1);
        x.request(1);
        x.pass(7);
        x.request(2);
        x.pass(1);
        Texts.type(x, 1, "abcd");
        int[] due = {16, 6, 6, 1, 2, 7};
        for (int what = 0; what < 6; what++) {
            Check.due("what is " + what, x.session(1, what), due[what]);
        }
        Check.due("the other one's", x.session(0, 0) * 100 + x.session(0, 1) * 10 + x.session(0, 2), 530);
        doc.says(9, "Returns the number; NOT_FOUND for 3 to 5 if there is no such user;");
        for (int what = 3; what < 6; what++) {
            Check.due("what is " + what, x.session(0, what), NOT_FOUND);
        }
        x.answer(1, false);
        Check.due("nobody asks any more", x.session(1, 4) + x.session(1, 5), 2 * NOT_FOUND);
        Check.due("but user 1 controls", x.session(1, 3), 1);
        doc.says(9, "BAD_VALUE for any other what.");
        for (int what : new int[] {-1, 6, LEAST, MOST}) {
            Check.due("what is " + what, x.session(1, what), BAD_VALUE);
        }
        doc.says(9, "Throws `IndexOutOfBoundsException` if session is not a valid index (checked first)");
        Check.dueThrow("session", session -> x.session(session, 0), -1, 2, 4, LEAST, MOST);
        Check.dueThrow("with a wrong what, session", session -> x.session(session, 9), -1, 2);
    }

    private void event() {
        doc.says(10, "Returns a number of an event of a session. ... 0: its sort; 1: its symbol (for TYPED) or width "
            + "(for SIZED), otherwise 0; 2: its height (for SIZED), otherwise 0; 3: its time");
        SharedConsole x = Texts.loaded("session t 16 6;session s 4 3;user a 3 2;");
        x.attach(0, 1);
        x.request(0);
        x.pass(5);
        Texts.type(x, 0, "z");
        x.pass(1);
        x.setSetting(SHRINK, 1);
        int[] typed = {SharedConsole.TYPED, 26, 0, 5};
        int[] sized = {SharedConsole.SIZED, 3, 2, 6};
        for (int what = 0; what < 4; what++) {
            Check.due("typed, what is " + what, x.event(1, 0, what), typed[what]);
            Check.due("sized, what is " + what, x.event(1, 1, what), sized[what]);
        }
        doc.says(10, "Returns the number; NOT_FOUND if there is no such event (checked first);");
        for (int event : new int[] {-1, 2, 300, LEAST, MOST}) {
            Check.due("event " + event, x.event(1, event, 0), NOT_FOUND);
            Check.due("with a wrong what, event " + event, x.event(1, event, 4), NOT_FOUND);
        }
        Check.due("the other session has none", x.event(0, 0, 0), NOT_FOUND);
        x.undo();
        Check.due("nor is there one that was undone", x.event(1, 1, 0), NOT_FOUND);
        doc.says(10, "BAD_VALUE for any other what.");
        for (int what : new int[] {-1, 4, LEAST, MOST}) {
            Check.due("what is " + what, x.event(1, 0, what), BAD_VALUE);
        }
        doc.says(10, "Throws `IndexOutOfBoundsException` if session is not a valid index (checked first of all)");
        Check.dueThrow("session", session -> x.event(session, 0, 0), -1, 2, LEAST, MOST);
        Check.dueThrow("with all wrong, session", session -> x.event(session, -1, -1), -1, 2);
    }

    private void screen() {
        doc.says(11, "Returns a number of the screen of a session at a position (see SCREENS). ... 0: its width; 1: "
            + "its height; 2: the row of the cursor; 3: the column of the cursor; 4: the lines that went up");
        SharedConsole x = Setups.typing(5, 4);
        Texts.type(x, 0, "/////a/bcd");
        x.setSetting(SHRINK, 1);
        x.window(0, 4, 3);
        int[][] due = {{5, 4, 0, 0, 0}, {5, 4, 3, 0, 2}, {5, 4, 3, 3, 3}, {4, 3, 2, 3, 4}};
        int[] positions = {0, 5, 10, 11};
        for (int i = 0; i < 4; i++) {
            for (int what = 0; what < 5; what++) {
                Check.due("position " + positions[i] + ", what is " + what, x.screen(0, positions[i], what), due[i][what]);
            }
        }
        doc.says(11, RETURNS_NUMBER);
        for (int what : new int[] {-1, 5, LEAST, MOST}) {
            Check.due("what is " + what, x.screen(0, 0, what), BAD_VALUE);
        }
        doc.says(11, THROWS_FOR_PLACE + " (checked first)");
        Check.dueThrow("session", session -> x.screen(session, 0, 0), -1, 2, LEAST, MOST);
        Check.dueThrow("position", position -> x.screen(0, position, 0), -1, 12, 300, 301, LEAST, MOST);
        Check.dueThrow("with a wrong what, session", session -> x.screen(session, 0, 5), -1, 2);
        Check.dueThrow("with a wrong what, position", position -> x.screen(0, position, -1), -1, 12);
        Check.dueThrow("position of the other session", position -> x.screen(1, position, 0), 1, 11);
    }

    private void at() {
        doc.says(12, "Returns what is at a place of the screen of a session at a position. ... - `column`: a column, 0 "
            + "for the leftmost one");
        SharedConsole x = Setups.typing(4, 3);
        Texts.type(x, 0, "abcd__ef/#xy/z");
        Check.due("uppermost and leftmost", x.at(0, 8, 0, 0), 1);
        Check.due("uppermost and rightmost", x.at(0, 8, 0, 3), 4);
        Check.due("row 1", x.at(0, 8, 1, 2), 5);
        Check.due("position 1", x.at(0, 1, 0, 0), 1);
        Check.due("the last position", x.at(0, 14, 1, 0), 26);
        doc.says(12, "Returns the symbol, SPACE if nothing was written there;");
        Check.due("SPACE was written", x.at(0, 8, 1, 0), SPACE);
        Check.due("nothing was written", x.at(0, 8, 2, 0), SPACE);
        Check.due("not yet", x.at(0, 0, 0, 0), SPACE);
        Check.due("CLEAR took it away", x.at(0, 10, 0, 3), SPACE);
        Check.due("the lowest and rightmost place", x.at(0, 14, 2, 3), SPACE);
        doc.says(12, "NOT_FOUND if the screen has no such place.");
        for (int wrong : new int[] {-1, 4, 16, LEAST, MOST}) {
            Check.due("row " + wrong, x.at(0, 8, wrong, 0), NOT_FOUND);
            Check.due("column " + wrong, x.at(0, 8, 0, wrong), NOT_FOUND);
        }
        Check.due("row 3 of three", x.at(0, 8, 3, 0), NOT_FOUND);
        x.setSetting(SHRINK, 1);
        x.window(0, 3, 2);
        Check.due("not after it got smaller", x.at(0, 15, 0, 3) + x.at(0, 15, 2, 0), 2 * NOT_FOUND);
        Check.due("but before", x.at(0, 14, 0, 3), SPACE);
        doc.says(12, THROWS_FOR_PLACE + " (checked first)");
        Check.dueThrow("session", session -> x.at(session, 0, 0, 0), -1, 2, LEAST, MOST);
        Check.dueThrow("position", position -> x.at(0, position, 0, 0), -1, 16, LEAST, MOST);
        Check.dueThrow("with no such place, session", session -> x.at(session, 0, -1, 0), -1, 2);
        Check.dueThrow("with no such place, position", position -> x.at(0, position, 0, 16), -1, 16);
    }

    private void above() {
        doc.says(13, "Returns what is at a place of a line that went up (see SCREENS). ... - `line`: 0 for the line "
            + "that went up first of those that are kept\n- `column`: a column");
        SharedConsole x = Setups.typing(16, 1);
        Texts.type(x, 0, "abcdefghijklmnopxy/z");
        Check.due("the first", x.above(0, 20, 0, 0), 1);
        Check.due("the second", x.above(0, 20, 1, 1), 25);
        Check.due("column 15", x.above(0, 20, 0, 15), 16);
        Check.due("as soon as it is up", x.above(0, 16, 0, 0), 1);
        doc.says(13, "Returns the symbol, SPACE if the line is not so long;");
        Check.due("SPACE in it", x.above(0, 20, 1, 2), SPACE);
        SharedConsole y = Setups.typing(2, 1);
        Texts.type(y, 0, "ab");
        for (int column = 0; column < 16; column++) {
            Check.due("column " + column, y.above(0, 2, 0, column), column < 2 ? column + 1 : SPACE);
        }
        doc.says(13, "NOT_FOUND if there is no such line, or column is not 0 to 15.");
        for (int wrong : new int[] {-1, 16, LEAST, MOST}) {
            Check.due("column " + wrong, x.above(0, 20, 0, wrong), NOT_FOUND);
            Check.due("line " + wrong, x.above(0, 20, wrong, 0), NOT_FOUND);
        }
        Check.due("line 2 of two", x.above(0, 20, 2, 0), NOT_FOUND);
        Check.due("line 0 of none", x.above(0, 15, 0, 0), NOT_FOUND);
        doc.says(13, THROWS_FOR_PLACE + " (checked first)");
        Check.dueThrow("session", session -> x.above(session, 0, 0, 0), -1, 2, LEAST, MOST);
        Check.dueThrow("position", position -> x.above(0, position, 0, 0), -1, 21, LEAST, MOST);
        Check.dueThrow("with no such line, session", session -> x.above(session, 0, -1, 0), -1, 2);
        Check.dueThrow("with no such column, position", position -> x.above(0, position, 0, 16), -1, 21);
    }

    private void words() {
        doc.says(24, "Returns the first position at which some row of the screen of a session shows a word: its "
            + "letters side by side, also as a part of a longer row of letters. ... - `letters`: the word as six "
            + "groups of 5 bits, as told for named");
        SharedConsole x = Setups.typing(16, 2);
        Texts.type(x, 0, "xabcdefgh/#abc\rz");
        Check.due("one letter", x.firstShowing(0, Texts.keys("x")), 1);
        Check.due("not only at the first time", x.firstShowing(0, Texts.keys("ab")), 3);
        Check.due("six letters", x.firstShowing(0, Texts.keys("abcdef")), 7);
        Check.due("at the end of a row of letters", x.firstShowing(0, Texts.keys("gh")), 9);
        Check.due("at the last position", x.firstShowing(0, Texts.keys("zbc")), 16);
        SharedConsole y = Setups.typing(2, 6);
        Texts.type(y, 0, "/////ab");
        Check.due("the row went up at once", y.firstShowing(0, Texts.keys("ab")), 7);
        Texts.type(y, 0, "#////pq/xy");
        Check.due("in row 4", y.firstShowing(0, Texts.keys("pq")), 14);
        SharedConsole z = Setups.typing(16, 1);
        Texts.type(z, 0, "abcdefghijklmn");
        Check.due("up to the last column but one", z.firstShowing(0, Texts.keys("ijklmn")), 14);
        Texts.type(z, 0, "<<<<<<<<");
        z.setSetting(SHRINK, 1);
        z.window(0, 3, 1);
        Check.due("of former positions too", z.firstShowing(0, Texts.keys("lmn")), 14);
    }

    private void noWords() {
        doc.says(24, "Returns the position; NOT_FOUND if there is none, or letters is no word of 1 to 6 letters.");
        SharedConsole x = Setups.typing(4, 2);
        Texts.type(x, 0, "xabcdef");
        Check.due("never", x.firstShowing(0, Texts.keys("ac")), NOT_FOUND);
        Check.due("not around the end of a row", x.firstShowing(0, Texts.keys("cd")), NOT_FOUND);
        Check.due("longer than a row", x.firstShowing(0, Texts.keys("xabcd")), NOT_FOUND);
        Check.due("not backwards", x.firstShowing(0, Texts.keys("ba")), NOT_FOUND);
        Check.due("not from above", x.firstShowing(0, Texts.keys("xd")), NOT_FOUND);
        Check.due("another session", x.firstShowing(1, Texts.keys("x")), NOT_FOUND);
        SharedConsole y = Setups.typing(2, 1);
        Texts.type(y, 0, "ab");
        Check.due("not in a line that went up", y.firstShowing(0, Texts.keys("ab")), NOT_FOUND);
        SharedConsole z = Setups.typing(16, 2);
        Texts.type(z, 0, "abcdefghijklmnopqr");
        Check.due("not around the end of the widest row", z.firstShowing(0, Texts.keys("pq")), NOT_FOUND);
        Check.due("nor further around it", z.firstShowing(0, Texts.keys("opqr")), NOT_FOUND);
        Texts.type(z, 0, "xyz");
        z.undo();
        Check.due("not what is undone", z.firstShowing(0, Texts.keys("x")), NOT_FOUND);
        int letter = 24 << 25;
        int[] noWords = {0, 1, 24, 1 << 20, -1, LEAST, MOST, letter | 1 << 30, letter | 1 << 31, letter | 1 << 15,
            letter | 1, 27 << 25, letter | 27 << 20, letter | 28 << 20, letter | 31 << 20, letter | 1 << 20 | 27 << 15};
        Texts.type(x, 0, "#x_");
        for (int letters : noWords) {
            Check.due("letters " + Integer.toHexString(letters), x.firstShowing(0, letters), NOT_FOUND);
        }
        Check.due("the word itself", x.firstShowing(0, letter), 1);
        doc.says(24, "Throws `IndexOutOfBoundsException` if session is not a valid index");
        Check.dueThrow("session", session -> x.firstShowing(session, letter), -1, 2, LEAST, MOST);
        Check.dueThrow("with no word, session", session -> x.firstShowing(session, 0), -1, 2);
    }

    private void differences() {
        doc.says(25, "Returns the first place, row by row, at which the screens of a session at two positions differ. "
            + "... - `b`: a position");
        SharedConsole x = Setups.typing(16, 6);
        Texts.type(x, 0, "a/bcdefghijklmnopq\r_c#abc");
        Check.due("a letter and nothing", x.firstDifference(0, 0, 1), 0);
        Check.due("a letter and another", x.firstDifference(0, 20, 25), 1);
        Check.due("row 0 ahead of row 1, column 1 behind column 0", x.firstDifference(0, 4, 25), 1);
        doc.says(25, "Returns 16 times the row plus the column;");
        Check.due("row 1, column 0", x.firstDifference(0, 2, 3), 16);
        Check.due("row 1, column 15", x.firstDifference(0, 17, 18), 31);
        SharedConsole y = Setups.typing(2, 6);
        Texts.type(y, 0, "/////ab");
        Check.due("row 5, column 0", y.firstDifference(0, 5, 6), 80);
        SharedConsole u = Setups.typing(16, 6);
        Texts.type(u, 0, "/////abcdefghijklmno");
        Check.due("row 5, column 14", u.firstDifference(0, 20, 19), 94);
        doc.says(25, "NOT_FOUND if they are the same at all places that both have.");
        Check.due("the same position", x.firstDifference(0, 5, 5), NOT_FOUND);
        Check.due("only the cursor differs", x.firstDifference(0, 1, 2), NOT_FOUND);
        Check.due("SPACE is nothing", x.firstDifference(0, 0, 22), NOT_FOUND);
        SharedConsole z = Setups.typing(4, 3);
        Texts.type(z, 0, "abcd/e\r");
        z.setSetting(SHRINK, 1);
        z.window(0, 3, 6);
        Check.due("a column that one has", z.firstDifference(0, 7, 8) + z.firstDifference(0, 8, 7), 2 * NOT_FOUND);
        SharedConsole v = Setups.typing(2, 2);
        Texts.type(v, 0, "x/x");
        v.setSetting(SHRINK, 1);
        v.window(0, 2, 1);
        Check.due("a row that one has", v.firstDifference(0, 3, 4) + v.firstDifference(0, 4, 3), 2 * NOT_FOUND);
        doc.says(25, "Throws `IndexOutOfBoundsException` if session is not a valid index, or a or b is out of range");
        Check.dueThrow("session", session -> x.firstDifference(session, 0, 0), -1, 2, LEAST, MOST);
        Check.dueThrow("a", a -> x.firstDifference(0, a, 0), -1, 26, LEAST, MOST);
        Check.dueThrow("b", b -> x.firstDifference(0, 0, b), -1, 26, LEAST, MOST);
        Check.dueThrow("both", both -> x.firstDifference(0, both, both), -1, 26);
    }

    private void fullness() {
        doc.says(26, "Returns how full a screen is: the places with symbols other than SPACE divided by all places, "
            + "both as floats. ... Returns the quotient.");
        SharedConsole x = Setups.typing(3, 1);
        Texts.type(x, 0, "a_\r_bc");
        Check.due("none", x.fullness(0, 0), 0f);
        Check.due("one of three", x.fullness(0, 1), 1f / 3f);
        Check.due("SPACE does not count", x.fullness(0, 2), 1f / 3f);
        Check.due("SPACE over a letter", x.fullness(0, 4), 0f);
        Check.due("lines that went up don't count", x.fullness(0, 6), 0f);
        SharedConsole y = Setups.typing(2, 6);
        Texts.type(y, 0, "a/b/c/d/e/f");
        Check.due("six rows", y.fullness(0, 11), 0.5f);
        SharedConsole z = Setups.typing(16, 6);
        for (int i = 0; i < 95; i++) {
            Texts.type(z, 0, "a");
        }
        Check.due("95 of 96", z.fullness(0, 95), 95f / 96f);
        x.setSetting(SHRINK, 1);
        x.window(0, 2, 1);
        Texts.type(x, 0, "a");
        Check.due("one of the two that there are then", x.fullness(0, 8), 0.5f);
        doc.says(26, THROWS_FOR_PLACE);
        Check.dueThrow("session", session -> x.fullness(session, 0), -1, 2, LEAST, MOST);
        Check.dueThrow("position", position -> x.fullness(0, position), -1, 9, LEAST, MOST);
    }

    private void typedBy() {
        doc.says(27, "Returns the number of events that a user typed in all sessions. ... Returns the number of "
            + "events.");
        SharedConsole x = Texts.loaded("session s 5 3;session t 16 6;user a 4 2;user b 2 2;user c 3 3;");
        x.attach(0, 0);
        x.request(0);
        Texts.type(x, 0, "a_/\r<#");
        x.setSetting(SHRINK, 1);
        x.attach(0, 1);
        x.request(0);
        Texts.type(x, 0, "bc");
        x.attach(1, 1);
        x.request(1);
        x.answer(0, true);
        Texts.type(x, 1, "xyz");
        Check.due("in both sessions", x.typedBy(0), 8);
        Check.due("not what others typed, nor SIZED", x.typedBy(1), 3);
        Check.due("none", x.typedBy(2), 0);
        x.undo();
        Check.due("not what is undone", x.typedBy(1), 0);
        doc.says(27, "Throws `IndexOutOfBoundsException` if user is not a valid index");
        Check.dueThrow("user", user -> x.typedBy(user), -1, 3, 6, LEAST, MOST);
    }
}

/** Sentences about things and the text format, and those of promises 1 to 8. */
final class TextSentences {
    private static final int NOT_FOUND = SharedConsole.NOT_FOUND, BAD_VALUE = SharedConsole.BAD_VALUE;
    private static final int WAIT = SharedConsole.WAIT, SHRINK = SharedConsole.SHRINK;
    private static final int MOST = Integer.MAX_VALUE, LEAST = Integer.MIN_VALUE;
    private static final String FOUR = "session d 2 1;session c 2 1;session b 2 1;session a 2 1;";
    private static final String SIX = "user f 2 1;user e 2 1;user d 2 1;user c 2 1;user b 2 1;user a 2 1;";

    private final Doc doc;

    TextSentences(Doc doc) {
        this.doc = doc;
    }

    void check() {
        use();
        things();
        settings();
        tokens();
        grammar();
        names();
        firstErrors();
        errors();
        newObject();
        feed();
        load();
        loadReplaces();
        errorPosition();
        counts();
        named();
        getSetting();
    }

    /** How a new object takes a text: the number of statements, or the error and its position. */
    private static String taken(String text) {
        SharedConsole x = new SharedConsole();
        int answer = Texts.load(x, text);
        String place = x.errorPosition() == NOT_FOUND ? "" : " at " + x.errorPosition();
        switch (answer) {
            case SharedConsole.SYNTAX_ERROR:
                return "SYNTAX" + place;
            case SharedConsole.RANGE_ERROR:
                return "RANGE" + place;
            case SharedConsole.DUPLICATE_ERROR:
                return "DUPLICATE" + place;
            case SharedConsole.COUNT_ERROR:
                return "COUNT" + place;
            default:
                return answer + place;
        }
    }

    private static void takes(String text, String answer) {
        Check.due(text.replace("\n", "\\n"), taken(text), answer);
    }

    private void use() {
        doc.says("USE", "An object is used for at most 512 calls after it has been made; what later calls answer is "
            + "free.");
        SharedConsole x = new SharedConsole();
        for (int call = 1; call < 512; call++) {
            x.setSetting(WAIT, call % 99 + 1);
        }
        Check.due("the 512th call", x.getSetting(WAIT), 511 % 99 + 1);
    }

    private void things() {
        doc.says("THINGS", "There are at most 4 sessions and 6 users, each sort indexed from 0 in the order in which "
            + "they are declared.");
        SharedConsole x = Texts.loaded(SIX.substring(0, 22) + FOUR + SIX.substring(22));
        Check.due("sessions and users", x.count(0) * 10 + x.count(1), 46);
        for (int i = 0; i < 6; i++) {
            String name = "" + (char) ('f' - i);
            Check.due("user " + name, x.named(true, Texts.keys(name)), i);
            Check.due("session " + name, x.named(false, Texts.keys(name)), i < 2 ? NOT_FOUND : i - 2);
        }
        takes(FOUR + "session e 2 1;", "COUNT at 56");
        takes(SIX + "user g 2 1;", "COUNT at 66");
        doc.says("THINGS", "A session has its own width (2 to 16) and height (1 to 6), and events, at most 300, "
            + "indexed from 0.");
        takes("session a 2 1;session b 16 6;", "2");
        takes("session a 1 1;", "RANGE at 10");
        takes("session a 17 6;", "RANGE at 10");
        takes("session a 2 0;", "RANGE at 12");
        takes("session a 16 7;", "RANGE at 13");
        SharedConsole y = Setups.typing(4, 2);
        for (int i = 0; i < 50; i++) {
            Texts.type(y, 0, i < 49 ? "abcdef" : "uvwxyz");
        }
        Check.due("event -1", y.event(0, -1, 1), NOT_FOUND);
        Check.due("event 0", y.event(0, 0, 1), 1);
        Check.due("event 299", y.event(0, 299, 1), 26);
        Check.due("event 300", y.event(0, 300, 1), NOT_FOUND);
        Check.due("no further one", Texts.type(y, 0, "a") < 0 && y.session(0, 2) == 300, true);
        doc.says("THINGS", "A user has a window (width 2 to 16, height 1 to 6).");
        takes("user a 2 1;user b 16 6;", "2");
        takes("user a 1 1;", "RANGE at 7");
        takes("user a 17 6;", "RANGE at 7");
        takes("user a 2 0;", "RANGE at 9");
        takes("user a 16 7;", "RANGE at 10");
    }

    private void settings() {
        doc.says("THINGS", "Time is counted in ticks, 0 to 9999.");
        SharedConsole x = new SharedConsole();
        Check.due("at first", x.count(3), 0);
        for (int i = 0; i < 19; i++) {
            x.pass(500);
        }
        Check.due("to 9999", x.pass(499) * 10000 + x.count(3), 9999);
        Check.due("no further", x.pass(1), SharedConsole.FULL);
        Check.due("it stays", x.count(3), 9999);
        doc.says("THINGS", "The settings, with their ranges and initial values, are WAIT (1 to 99, initially 10) and "
            + "SHRINK (0 to 1, initially 0).");
        SharedConsole y = new SharedConsole();
        Check.due("WAIT at first", y.getSetting(WAIT), 10);
        Check.due("SHRINK at first", y.getSetting(SHRINK), 0);
        int[][] tried = {{WAIT, 0, BAD_VALUE}, {WAIT, 1, 10}, {WAIT, 99, 1}, {WAIT, 100, BAD_VALUE},
            {SHRINK, -1, BAD_VALUE}, {SHRINK, 1, 0}, {SHRINK, 0, 1}, {SHRINK, 2, BAD_VALUE}};
        for (int[] one : tried) {
            Check.due("setting " + one[0] + " to " + one[1], y.setSetting(one[0], one[1]), one[2]);
        }
        takes("set wait 1;set shrink 0;", "2");
        takes("set wait 99;set shrink 1;", "2");
        takes("set wait 0;", "RANGE at 9");
        takes("set wait 100;", "RANGE at 9");
        takes("set shrink 2;", "RANGE at 11");
    }

    private void tokens() {
        doc.says("TEXT FORMAT", "Tokens are words (maximal runs of the letters a to z), integers (maximal runs of "
            + "decimal digits, read as unsigned numbers of any length), and the character ';'.");
        takes("user az9 6;", "1");
        takes("user a 2 1;user z2 1;", "2");
        takes("user9a 2 1;", "SYNTAX at 4");
        takes("user a 3b 1;", "SYNTAX at 8");
        takes("user a " + "0".repeat(500) + "16 " + "0".repeat(40) + "6;", "1");
        takes("user a " + "0".repeat(500) + "17 6;", "RANGE at 7");
        takes("user a " + "9".repeat(500) + " 1;", "RANGE at 7");
        // 2 more than 2 to the 31st, to the 32nd and to the 64th, which wrap around
        takes("user a 2147483650 1;", "RANGE at 7");
        takes("user a 4294967298 1;", "RANGE at 7");
        takes("user a 18446744073709551618 1;", "RANGE at 7");
        takes("user a +2 1;", "SYNTAX at 7");
        takes("user a -2 1;", "SYNTAX at 7");
        takes("user a 2 1;;", "SYNTAX at 11");
        doc.says("TEXT FORMAT", "Spaces (32) and newlines (10) may stand between tokens, ahead of the first one and "
            + "behind the last one.");
        takes(" \n\n  user\na \n2  1\n ; \n set\nwait\n5\n;\n\n ", "2");
        takes("user a 2 1 ;", "1");
        SharedConsole x = Texts.loaded("user\na 2\n1;user b 2 1;session\n\n\nc 3\n2;");
        Check.due("names behind them", x.named(true, Texts.keys("a")) * 10 + x.named(false, Texts.keys("c")), 0);
        Check.due("numbers behind them", x.session(0, 0) * 10 + x.session(0, 1), 32);
        takes(" ", "0");
        takes("\n", "0");
        takes("us er a 2 1;", "SYNTAX at 0");
        takes("user a 1 6 1;", "RANGE at 7");
        doc.says("TEXT FORMAT", "Any other character is a token that is never allowed.");
        for (int character = 0; character < 256; character++) {
            boolean known = character >= 'a' && character <= 'z' || character >= '0' && character <= '9'
                || character == ';' || character == ' ' || character == '\n';
            if (!known) {
                Check.due("character " + character + " between", taken("user a " + (char) character + "2 1;"), "SYNTAX at 7");
                Check.due("character " + character + " for ';'", taken("user a 2 1" + (char) character), "SYNTAX at 10");
                Check.due("character " + character + " behind", taken("user a 2 1;" + (char) character), "SYNTAX at 11");
            }
        }
    }

    private void grammar() {
        doc.says("TEXT FORMAT", "text      = { statement \";\" }");
        takes("", "0");
        takes("set wait 1;", "1");
        takes("set wait 1;set shrink 1;user a 2 1;", "3");
        takes("set wait 1", "SYNTAX at 10");
        takes(";", "SYNTAX at 0");
        takes("set wait 1;;", "SYNTAX at 11");
        doc.says("TEXT FORMAT", "statement = \"session\" name width height | \"user\" name width height | \"set\" "
            + "setting integer");
        String[] statements = {"session a 2 1", "user a 2 1", "set wait 1"};
        for (String statement : statements) {
            takes(statement + ";", "1");
            takes(statement + " 1;", "SYNTAX at " + (statement.length() + 1));
            takes(statement + " a;", "SYNTAX at " + (statement.length() + 1));
            int last = statement.lastIndexOf(' ');
            takes(statement.substring(0, last) + ";", "SYNTAX at " + last);
            takes(statement.substring(0, last) + " a;", "SYNTAX at " + (last + 1));
            takes("x" + statement + ";", "SYNTAX at 0");
            takes("x" + statement.substring(1) + ";", "SYNTAX at 0");
            takes(statement.replaceFirst("[a-z] ", "x ") + ";", "SYNTAX at 0");
        }
        takes("session a;", "SYNTAX at 9");
        takes("user;", "SYNTAX at 4");
        takes("set;", "SYNTAX at 3");
        takes("set a 1;", "SYNTAX at 4");
        takes("7 a 2 1;", "SYNTAX at 0");
        doc.says("TEXT FORMAT", "setting   = \"wait\" | \"shrink\"");
        takes("set wait 1;set shrink 1;", "2");
        takes("set shrink 1;set wait 1;", "2");
        takes("set xait 1;", "SYNTAX at 4");
        takes("set xhrink 1;", "SYNTAX at 4");
        takes("set waits 1;", "SYNTAX at 4");
        takes("set wai 1;", "SYNTAX at 4");
        takes("set shrin 1;", "SYNTAX at 4");
        takes("set 1;", "SYNTAX at 4");
    }

    private void names() {
        doc.says("TEXT FORMAT", "A name is a word of 1 to 6 letters; a longer word is not allowed where a name is; "
            + "whatever stands where a name is allowed is one.");
        takes("session a 2 1;user b 2 1;", "2");
        takes("session abcdef 2 1;user zzzzzz 2 1;", "2");
        takes("session abcdefg 2 1;", "SYNTAX at 8");
        takes("user abcdefg 2 1;", "SYNTAX at 5");
        takes("user " + "a".repeat(300) + " 2 1;", "SYNTAX at 5");
        takes("user 2 1;", "SYNTAX at 5");
        takes("user user 2 1;user set 2 1;user wait 2 1;user shrink 2 1;session user 2 1;session set 2 1;", "6");
        takes("user session 2 1;", "SYNTAX at 5");
        doc.says("TEXT FORMAT", "A session and a user can have the same name.");
        takes("session a 2 1;user a 2 1;", "2");
        SharedConsole x = Texts.loaded("user b 2 1;session a 2 1;user a 2 1;");
        Check.due("each is found", x.named(true, Texts.keys("a")) * 10 + x.named(false, Texts.keys("a")), 10);
    }

    private void firstErrors() {
        doc.says("TEXT FORMAT", "The first error in the order of the text is reported, at the position of the first "
            + "character of its token.");
        takes("user a 99 0;;", "RANGE at 7");
        takes("user a 2 99 1;user a", "RANGE at 9");
        takes("user a 2 1;user a 99", "DUPLICATE at 16");
        takes(SIX + "user a 99", "COUNT at 66");
        takes("user a 2 1;user\n  abcdefgh", "SYNTAX at 18");
        takes("set wait 000100 ?", "RANGE at 9");
        doc.says("TEXT FORMAT", "If several errors apply to one token, the one listed first is reported.");
        takes("user 99 2 1;", "SYNTAX at 5");
        takes("user a 2 1 99;", "SYNTAX at 11");
        takes("set wait 1;set 0;", "SYNTAX at 15");
        takes(FOUR.substring(0, 55) + " session e 2 1;", "SYNTAX at 56");
        takes(SIX.substring(0, 65) + " user g 2 1;", "SYNTAX at 66");
        takes("set wait 1 wait 2;", "SYNTAX at 11");
    }

    private void errors() {
        doc.says("TEXT FORMAT", "SYNTAX_ERROR: the token is not allowed here; if the text ends too early, the position "
            + "is its length.");
        takes("user a b 1;", "SYNTAX at 7");
        takes("user a 2;", "SYNTAX at 8");
        String[] early = {"session", "session a", "session a 2", "session a 2 1", "user", "user a", "user a 2", "user a 2 1",
            "set", "set wait", "set wait 1"};
        for (String text : early) {
            takes(text, "SYNTAX at " + text.length());
            takes(text + " \n ", "SYNTAX at " + (text.length() + 3));
        }
        doc.says("TEXT FORMAT", "RANGE_ERROR: an integer is outside its range.");
        takes("session a 2 1;session b 0 1;", "RANGE at 24");
        takes("user a 2 07;", "RANGE at 9");
        takes("user a 1", "RANGE at 7");
        takes("set shrink 10;", "RANGE at 11");
        doc.says("TEXT FORMAT", "DUPLICATE_ERROR: the name of a session or user that another one of the same sort has; "
            + "the name of a setting that was already given.");
        takes("session a 2 1;user a 2 1;session a 2 1;", "DUPLICATE at 33");
        takes("user a 2 1;session a 2 1;user b 2 1;user a 2 1;", "DUPLICATE at 41");
        takes("user ab 2 1;user a 2 1;user b 2 1;user abc 2 1;", "4");
        takes("user abcdef 2 1;user abcdeg 2 1;user abcdef 2 1;", "DUPLICATE at 37");
        takes("set wait 1;set shrink 1;set wait 1;", "DUPLICATE at 28");
        takes("set shrink 1;set shrink 0;", "DUPLICATE at 17");
        SharedConsole x = Texts.loaded("user a 2 1;session a 2 1;set wait 1;set shrink 1;");
        Check.due("all of it in another text", Texts.load(x, "user a 2 1;session a 2 1;set wait 1;set shrink 1;"), 4);
        doc.says("TEXT FORMAT", "COUNT_ERROR: the first word of a statement that declares a fifth session or a seventh "
            + "user.");
        takes(SIX + FOUR, "10");
        takes(SIX + FOUR + "session e 2 1;", "COUNT at 122");
        takes(FOUR + SIX + "\nuser g 2 1;", "COUNT at 123");
        takes(FOUR + "session a 2 1;", "COUNT at 56");
    }

    private void newObject() {
        doc.says(1, "Creates consoles without sessions and users, with initial settings, the time 0, empty buffers and "
            + "no changes to undo.");
        SharedConsole x = new SharedConsole();
        Check.due("sessions", x.count(0), 0);
        Check.due("users", x.count(1), 0);
        Check.due("users who watch", x.count(2), 0);
        Check.dueThrow("no session 0", () -> x.session(0, 0));
        Check.dueThrow("no user 0", () -> x.user(0, 0));
        Check.due("settings", x.getSetting(WAIT) * 10 + x.getSetting(SHRINK), 100);
        Check.due("the time", x.count(3), 0);
        Check.due("account", x.account(0) + x.account(1) + x.account(2) + x.account(3), 0);
        Check.due("the input buffer", x.load(1), BAD_VALUE);
        Check.due("the output buffer", x.outputAt(0), NOT_FOUND);
        Check.due("changes", x.undoCount(), 0);
        Check.due("undo", x.undo(), NOT_FOUND);
        Check.due("one byte more is 20", x.feed(0, 0, 0, 0, 0), 20);
    }

    private void feed() {
        doc.says(2, "Appends 20 bytes to the input buffer: the four bytes of each parameter, most significant byte "
            + "first. ... - `e`: last four bytes");
        SharedConsole x = new SharedConsole();
        // "user" " abc" "def " "16 6" ";  " and a byte of 255
        x.feed(0x75736572, 0x20616263, 0x64656620, 0x31362036, 0x3b2020ff);
        Check.due("in their order", x.load(20), SharedConsole.SYNTAX_ERROR);
        Check.due("the last one has all its bits", x.errorPosition(), 19);
        x.feed(0x20757365, 0x72206162, 0x63646566, 0x20313620, 0x363b2020);
        Check.due("without it", x.load(20), 1);
        Check.due("name", x.named(true, Texts.keys("abcdef")), 0);
        Check.due("size", x.user(0, 0) * 10 + x.user(0, 1), 166);
        x.feed(0x20202020, 0x20202020, 0x20202020, 0x20202020, 0x73657420);
        x.feed(0x77616974, 0x20373b20, 0x20202020, 0x20202020, 0x20202020);
        Check.due("one call goes on where the other ended", x.load(40) * 100 + x.getSetting(WAIT), 107);
        doc.says(2, "Returns the new number of bytes in the buffer; FULL if the buffer would hold more than 600 bytes "
            + "(nothing is appended then).");
        SharedConsole y = new SharedConsole();
        for (int bytes = 20; bytes <= 600; bytes += 20) {
            Check.due("up to 600", y.feed(0x20202020, 0x20202020, 0x20202020, 0x20202020, 0x20202020), bytes);
        }
        Check.due("620", y.feed(0, 0, 0, 0, 0), SharedConsole.FULL);
        Check.due("still full", y.feed(0, 0, 0, 0, 0), SharedConsole.FULL);
        Check.due("there are no 601", y.load(601), BAD_VALUE);
        Check.due("600 spaces", y.load(600), 0);
        Check.due("empty again", y.feed(0, 0, 0, 0, 0), 20);
    }

    private void load() {
        doc.says(3, "Replaces everything by what is described by the first length bytes of the input buffer (see TEXT "
            + "FORMAT) and empties the buffer (what was written to the output buffer stays).");
        SharedConsole x = Texts.loaded("session s 3 1;user a 3 1;");
        x.attach(0, 0);
        x.write(0);
        Texts.feed(x, "user b 2 1;set wait 0;");
        Check.due("only these bytes", x.load(11), 1);
        Check.due("it is empty", x.load(1), BAD_VALUE);
        Check.due("the output stays", Texts.output(x, 5), "   \n" + (char) NOT_FOUND);
        Check.due("no session s", x.count(0) + x.named(false, Texts.keys("s")), NOT_FOUND);
        Check.due("user b alone", x.count(1) * 10 + x.named(true, Texts.keys("b")), 10);
        Check.due("no user a", x.named(true, Texts.keys("a")), NOT_FOUND);
        Check.due("length 0", x.load(0), 0);
        Check.due("nothing is left", x.count(1), 0);
        doc.says(3, "- `length`: number of bytes to read, from 0 to the number of bytes in the buffer");
        SharedConsole y = new SharedConsole();
        Check.due("0 of none", y.load(0), 0);
        Check.due("1 of none", y.load(1), BAD_VALUE);
        y.feed(0x20202020, 0x20202020, 0x20202020, 0x20202020, 0x20202020);
        Check.due("20 of 20", y.load(20), 0);
        y.feed(0x20202020, 0x20202020, 0x20202020, 0x20202020, 0x20202020);
        Check.due("0 of 20", y.load(0), 0);
        doc.says(3, "Returns the number of statements; BAD_VALUE if length is out of range (the buffer is unchanged "
            + "then); SYNTAX_ERROR, RANGE_ERROR, DUPLICATE_ERROR or COUNT_ERROR.");
        SharedConsole z = new SharedConsole();
        Texts.feed(z, "set wait 5;set shrink 1;user c 2 1;");
        for (int length : new int[] {-1, LEAST, 41, 600, MOST}) {
            Check.due("length " + length, z.load(length), BAD_VALUE);
        }
        Check.due("three statements", z.load(35), 3);
        takes("?", "SYNTAX at 0");
        takes("set wait 0;", "RANGE at 9");
        takes("user a 2 1;user a 2 1;", "DUPLICATE at 16");
        takes(FOUR + "session", "COUNT at 56");
    }

    /** An object of which nothing is as it was at first. */
    private static SharedConsole used() {
        SharedConsole x = Texts.loaded("session e 3 2;session b 4 1;user d 4 2;user e 3 1;user c 3 2;set wait 3;");
        for (int user = 0; user < 3; user++) {
            x.attach(user, user / 2);
            x.request(user);
        }
        Texts.type(x, 0, "ab/c");
        Texts.type(x, 2, "z");
        x.pass(3);
        x.request(0);
        x.answer(1, false);
        x.request(0);
        x.answer(1, true);
        x.request(1);
        x.setSetting(SHRINK, 1);
        x.replay(2, 0, 50);
        x.lookBack(0, 2);
        x.lookBack(1, 1);
        x.lookBack(2, 1);
        x.pass(1);
        return x;
    }

    private void loadReplaces() {
        doc.says(3, "Settings that the text does not give have their initial values; the time is 0, and there are no "
            + "events.");
        SharedConsole x = used();
        Texts.load(x, "set shrink 1;session b 4 1;user c 3 2;");
        Check.due("WAIT", x.getSetting(WAIT), 10);
        Check.due("SHRINK is given", x.getSetting(SHRINK), 1);
        Check.due("the time", x.count(3), 0);
        Check.due("events", x.session(0, 2), 0);
        String text = "session e 4 2;session d 3 1;user c 4 2;user a 2 1;user d 3 1;";
        SharedConsole y = used();
        Texts.load(y, text);
        Check.due("everything as in a new object", Snapshot.of(y), Snapshot.of(Texts.loaded(text)));
        doc.says(3, "After a successful load nothing can be undone.");
        SharedConsole z = used();
        Check.due("before", z.undoCount(), 8);
        z.load(0);
        Check.due("changes", z.undoCount(), 0);
        Check.due("undo", z.undo(), NOT_FOUND);
        z.pass(1);
        Check.due("a change after it", z.undo() * 10 + z.undo(), NOT_FOUND);
        doc.says(3, "If the text has an error, nothing but the buffer changes: it is emptied all the same.");
        SharedConsole u = used();
        Texts.load(u, "session a 2 1;user x 2 1;set wait 77;set shrink 0;user");
        Check.due("changes can be undone", u.undoCount(), 8);
        Check.due("the buffer is empty", u.load(1), BAD_VALUE);
        Check.due("all the rest stays", Snapshot.of(u), Snapshot.of(used()));
    }

    private void errorPosition() {
        doc.says(4, "Returns the position of the error of the latest load that did not return BAD_VALUE.");
        SharedConsole x = new SharedConsole();
        Texts.load(x, "user a 2 0;");
        Check.due("of the latest", x.errorPosition(), 9);
        x.load(-1);
        x.load(1);
        Check.due("BAD_VALUE leaves it", x.errorPosition(), 9);
        Texts.load(x, "use");
        Check.due("of a later one", x.errorPosition(), 0);
        doc.says(4, "Returns the position in bytes from the start of the text; NOT_FOUND if that load had no error or "
            + "there was none.");
        SharedConsole y = new SharedConsole();
        Check.due("there was no load", y.errorPosition(), NOT_FOUND);
        y.load(1);
        Check.due("nor with BAD_VALUE", y.errorPosition(), NOT_FOUND);
        Texts.load(y, "user");
        Check.due("bytes", y.errorPosition(), 4);
        Texts.load(y, "user a 2 1;");
        Check.due("no error", y.errorPosition(), NOT_FOUND);
        y.load(1);
        Check.due("still none", y.errorPosition(), NOT_FOUND);
    }

    private void counts() {
        doc.says(5, "Returns a number of things. ... 0: sessions; 1: users; 2: users who watch; 3: the time");
        SharedConsole x = Texts.loaded("session s 4 2;user a 4 2;session t 4 2;user b 3 1;user c 3 1;user d 3 1;session u 4 2;");
        for (int user = 0; user < 3; user++) {
            x.attach(user, user);
        }
        x.goTo(1, 0);
        x.replay(2, 0, 10);
        x.pass(77);
        Check.due("sessions", x.count(0), 3);
        Check.due("users", x.count(1), 4);
        Check.due("who watch in any way", x.count(2), 3);
        Check.due("the time", x.count(3), 77);
        x.detach(1);
        Check.due("who still watch", x.count(2), 2);
        doc.says(5, "Returns the number; BAD_VALUE for any other what.");
        for (int what : new int[] {-1, 4, LEAST, MOST}) {
            Check.due("what is " + what, x.count(what), BAD_VALUE);
        }
        doc.says(6, "Returns the number of changes that can be undone.");
        SharedConsole y = new SharedConsole();
        y.pass(1);
        Check.due("one", y.undoCount(), 1);
        y.pass(1);
        y.undo();
        y.undo();
        Check.due("none again", y.undoCount(), 0);
        doc.says(6, "Returns 0 to 8.");
        for (int changes = 1; changes <= 20; changes++) {
            y.pass(1);
            Check.due("after " + changes, y.undoCount(), Math.min(changes, 8));
        }
    }

    private void named() {
        doc.says(7, "Returns the session or user with a name. ... - `user`: true for a user, false for a session");
        SharedConsole x = Texts.loaded("session ab 4 2;session z 4 2;user abcdez 4 2;user ab 3 1;user a 2 1;");
        Check.due("user ab", x.named(true, Texts.keys("ab")), 1);
        Check.due("session ab", x.named(false, Texts.keys("ab")), 0);
        doc.says(7, "- `letters`: the name as six groups of 5 bits, the first letter in the highest group; a is 1, z "
            + "is 26; unused groups at the end are 0");
        Check.due("a", x.named(true, 1 << 25), 2);
        Check.due("z", x.named(false, 26 << 25), 1);
        Check.due("six letters", x.named(true, 1 << 25 | 2 << 20 | 3 << 15 | 4 << 10 | 5 << 5 | 26), 0);
        doc.says(7, "Returns the index; NOT_FOUND if there is none with that name.");
        int[] others = {0, 1, 26, 1 << 20, 27 << 25, 1 << 25 | 1, 1 << 25 | 2 << 15, 1 << 25 | 1 << 30,
            1 << 25 | 1 << 31, -1, LEAST, MOST};
        for (int letters : others) {
            Check.due("user " + letters, x.named(true, letters), NOT_FOUND);
            Check.due("session " + letters, x.named(false, letters), NOT_FOUND);
        }
        Check.due("no user z", x.named(true, Texts.keys("z")), NOT_FOUND);
        Check.due("no session a", x.named(false, Texts.keys("a")), NOT_FOUND);
        Check.due("the start of a name", x.named(true, Texts.keys("abcde")), NOT_FOUND);
        Check.due("none at all", new SharedConsole().named(true, 0), NOT_FOUND);
    }

    private void getSetting() {
        doc.says(8, "Returns the value of a setting. ... - `setting`: WAIT or SHRINK");
        SharedConsole x = Texts.loaded("set shrink 1;set wait 98;");
        Check.due("WAIT", x.getSetting(WAIT), 98);
        Check.due("SHRINK", x.getSetting(SHRINK), 1);
        doc.says(8, "Returns the value; BAD_VALUE if setting is neither.");
        for (int setting : new int[] {-1, 2, LEAST, MOST}) {
            Check.due("setting " + setting, x.getSetting(setting), BAD_VALUE);
        }
    }
}

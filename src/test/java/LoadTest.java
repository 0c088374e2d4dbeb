/** Promises 1 to 8: a new object, feed, load, errorPosition, count, undoCount, named, getSetting. */
public final class LoadTest {
    private LoadTest() { }

    private static void newObject() {
        SharedConsole x = new SharedConsole();
        Check.due("1: sessions", x.count(0), 0);
        Check.due("1: users", x.count(1), 0);
        Check.due("1: users who watch", x.count(2), 0);
        Check.due("1: the time", x.count(3), 0);
        Check.due("1: wait", x.getSetting(SharedConsole.WAIT), 10);
        Check.due("1: shrink", x.getSetting(SharedConsole.SHRINK), 0);
        Check.due("1: changes", x.undoCount(), 0);
        Check.due("1: nothing to undo", x.undo(), SharedConsole.NOT_FOUND);
        Check.due("1: output", x.outputAt(0), SharedConsole.NOT_FOUND);
        Check.due("1: input", x.load(1), SharedConsole.BAD_VALUE);
        Check.due("1: error", x.errorPosition(), SharedConsole.NOT_FOUND);
        for (int what = 0; what < 4; what++) {
            Check.due("1: account " + what, x.account(what), 0);
        }
    }

    private static void feed() {
        SharedConsole x = new SharedConsole();
        // "user" " ab " "2 1;" and blanks: the most significant byte comes first
        Check.due("2: first", x.feed(0x75736572, 0x20616220, 0x3220313b, 0x20202020, 0x20202020), 20);
        for (int bytes = 40; bytes <= 600; bytes += 20) {
            Check.due("2: grows", x.feed(0x20202020, 0x20202020, 0x20202020, 0x20202020, 0x20202020), bytes);
        }
        Check.due("2: full", x.feed(0x78787878, 0x78787878, 0x78787878, 0x78787878, 0x78787878), SharedConsole.FULL);
        Check.due("2: nothing was appended", x.load(601), SharedConsole.BAD_VALUE);
        Check.due("2: all 600 are read", x.load(600), 1);
        Check.due("2: name", x.named(true, Texts.keys("ab")), 0);
        Check.due("2: width", x.user(0, 0), 2);
        Check.due("2: emptied", x.feed(0, 0, 0, 0, -1), 20);
        Check.due("2: bytes above 127 are no letters", x.load(20), SharedConsole.SYNTAX_ERROR);
        x.feed(0x20202020, 0x20202020, 0x20202020, 0x20202020, 0x202020e1);
        Check.due("2: all eight bits count", x.load(20), SharedConsole.SYNTAX_ERROR);
        Check.due("2: where", x.errorPosition(), 19);
    }

    private static void error(String text, int code, int position) {
        SharedConsole x = new SharedConsole();
        Check.due("3: " + text, Texts.load(x, text), code);
        Check.due("4: " + text, x.errorPosition(), position);
        Check.due("3: nothing comes of " + text, x.count(0) + x.count(1), 0);
        Check.due("3: the buffer is emptied by " + text, x.load(1), SharedConsole.BAD_VALUE);
    }

    private static void fine(String text, int statements) {
        SharedConsole x = new SharedConsole();
        Check.due("3: " + text, Texts.load(x, text), statements);
        Check.due("4: " + text, x.errorPosition(), SharedConsole.NOT_FOUND);
    }

    private static void texts() {
        fine("", 0);
        fine(" \n ", 0);
        fine("session a 2 1;", 1);
        fine("session abcdef 16 6;user abcdef 2 1;", 2);
        fine("user user 2 1;user set 2 1;session user 2 1;session set 2 1;", 4);
        fine("session a002 0001;set wait 99;set shrink 1;", 3);
        fine("\n session\na\n2\n1\n;\nuser a 16 6 ; ", 2);
        fine("set wait 1;set shrink 0;", 2);
        error("session", SharedConsole.SYNTAX_ERROR, 7);
        error("session ", SharedConsole.SYNTAX_ERROR, 8);
        error("session a 2 1", SharedConsole.SYNTAX_ERROR, 13);
        error("session a 2 1 \n", SharedConsole.SYNTAX_ERROR, 15);
        error(";", SharedConsole.SYNTAX_ERROR, 0);
        error(" sessions a 2 1;", SharedConsole.SYNTAX_ERROR, 1);
        error("sessio a 2 1;", SharedConsole.SYNTAX_ERROR, 0);
        error("session a 2 1;;", SharedConsole.SYNTAX_ERROR, 14);
        error("session abcdefg 2 1;", SharedConsole.SYNTAX_ERROR, 8);
        error("session session 2 1;", SharedConsole.SYNTAX_ERROR, 8);
        error("session 4 2 1;", SharedConsole.SYNTAX_ERROR, 8);
        error("session a b 1;", SharedConsole.SYNTAX_ERROR, 10);
        error("session a 2;", SharedConsole.SYNTAX_ERROR, 11);
        error("session a 2 1 1;", SharedConsole.SYNTAX_ERROR, 14);
        error("session a -2 1;", SharedConsole.SYNTAX_ERROR, 10);
        error("session A 2 1;", SharedConsole.SYNTAX_ERROR, 8);
        error("session\ta 2 1;", SharedConsole.SYNTAX_ERROR, 7);
        error("session a 2\r1;", SharedConsole.SYNTAX_ERROR, 11);
        error("set", SharedConsole.SYNTAX_ERROR, 3);
        error("set time 1;", SharedConsole.SYNTAX_ERROR, 4);
        error("set waits 1;", SharedConsole.SYNTAX_ERROR, 4);
        error("set wait wait;", SharedConsole.SYNTAX_ERROR, 9);
        error("set wait;", SharedConsole.SYNTAX_ERROR, 8);
        error("wait 1;", SharedConsole.SYNTAX_ERROR, 0);
        error("session a 1 1;", SharedConsole.RANGE_ERROR, 10);
        error("session a 17 1;", SharedConsole.RANGE_ERROR, 10);
        error("session a 2 0;", SharedConsole.RANGE_ERROR, 12);
        error("session a 2 7;", SharedConsole.RANGE_ERROR, 12);
        error("user a 1 1;", SharedConsole.RANGE_ERROR, 7);
        error("user a 17 1;", SharedConsole.RANGE_ERROR, 7);
        error("user a 2 0;", SharedConsole.RANGE_ERROR, 9);
        error("user a 2 7;", SharedConsole.RANGE_ERROR, 9);
        error("session a 99999999999999999999 1;", SharedConsole.RANGE_ERROR, 10);
        // 2 to the 32nd and 2 more: a number that wraps around would be in the range
        error("session a 4294967298 1;", SharedConsole.RANGE_ERROR, 10);
        error("session a 18446744073709551618 1;", SharedConsole.RANGE_ERROR, 10);
        error("session a 1002 1;", SharedConsole.RANGE_ERROR, 10);
        error("set wait 0;", SharedConsole.RANGE_ERROR, 9);
        error("set wait 100;", SharedConsole.RANGE_ERROR, 9);
        error("set shrink 2;", SharedConsole.RANGE_ERROR, 11);
        error("session a 1 0", SharedConsole.RANGE_ERROR, 10);
        error("session a 2 1;user a 2 1;session a 2 1;", SharedConsole.DUPLICATE_ERROR, 33);
        error("user a 2 1;user a 2 1;", SharedConsole.DUPLICATE_ERROR, 16);
        error("set wait 1;set wait 1;", SharedConsole.DUPLICATE_ERROR, 15);
        error("set shrink 1;set wait 3;set shrink", SharedConsole.DUPLICATE_ERROR, 28);
        String four = "session a 2 1;session b 2 1;session c 2 1;session d 2 1;";
        fine(four, 4);
        error(four + "session a", SharedConsole.COUNT_ERROR, 56);
        error(four + "session", SharedConsole.COUNT_ERROR, 56);
        String six = "user a 2 1;user b 2 1;user c 2 1;user d 2 1;user e 2 1;user f 2 1;";
        fine(six + four, 10);
        error(six + " user 7", SharedConsole.COUNT_ERROR, 67);
    }

    private static void load() {
        SharedConsole x = new SharedConsole();
        Check.due("3: length 0", x.load(0), 0);
        Check.due("3: negative length", x.load(-1), SharedConsole.BAD_VALUE);
        Check.due("4: none", x.errorPosition(), SharedConsole.NOT_FOUND);
        Texts.feed(x, "session a 4 2;user b 3 1;");
        Check.due("3: too long", x.load(41), SharedConsole.BAD_VALUE);
        Check.due("3: the buffer stays", x.load(14), 1);
        Check.due("3: only the first bytes are read", x.count(1), 0);
        Check.due("3: but all are gone", x.load(1), SharedConsole.BAD_VALUE);
        Check.due("3: length 0 replaces everything", x.load(0), 0);
        Check.due("3: no sessions", x.count(0), 0);
    }

    private static void loadReplaces() {
        SharedConsole x = Texts.loaded("session s 4 2;user a 4 2;user b 3 1;set wait 5;set shrink 1;");
        x.attach(0, 0);
        x.request(0);
        x.attach(1, 0);
        x.request(1);
        x.answer(0, true);
        x.write(0);
        x.pass(7);
        Check.due("3: a text with an error", Texts.load(x, "set wait 3;user c 2 1;x"), SharedConsole.SYNTAX_ERROR);
        Check.due("3: leaves users", x.count(1), 2);
        Check.due("3: leaves settings", x.getSetting(SharedConsole.WAIT), 5);
        Check.due("3: leaves the time", x.count(3), 7);
        Check.due("3: leaves events", x.session(0, 2), 1);
        Check.due("3: leaves changes", x.undoCount(), 6);
        Check.due("3: leaves control", x.session(0, 3), 1);
        Check.due("4: tells where", x.errorPosition(), 22);
        Check.due("4: undo leaves that", x.undo() * 100 + x.errorPosition(), 522);
        Check.due("4: as does a length out of range", x.load(1), SharedConsole.BAD_VALUE);
        Check.due("4: that", x.errorPosition(), 22);
        Check.due("3: load", Texts.load(x, "session t 5 3;user a 4 2;"), 2);
        Check.due("4: no error", x.errorPosition(), SharedConsole.NOT_FOUND);
        Check.due("3: initial wait", x.getSetting(SharedConsole.WAIT), 10);
        Check.due("3: initial shrink", x.getSetting(SharedConsole.SHRINK), 0);
        Check.due("3: time", x.count(3), 0);
        Check.due("3: events", x.session(0, 2), 0);
        Check.due("3: changes", x.undoCount(), 0);
        Check.due("3: undo", x.undo(), SharedConsole.NOT_FOUND);
        Check.due("3: control", x.session(0, 3), SharedConsole.NOT_FOUND);
        Check.due("3: watching", x.count(2), 0);
        Check.due("3: account", x.account(0) + x.account(1), 0);
        Check.due("3: the old name", x.named(false, Texts.keys("s")), SharedConsole.NOT_FOUND);
        Check.due("3: the output stays", Texts.output(x, 10), "    \n    \n");
    }

    private static void counts() {
        SharedConsole x = Texts.loaded("session s 4 2;user a 4 2;user b 3 1;user c 3 1;");
        Check.due("5: sessions", x.count(0), 1);
        Check.due("5: users", x.count(1), 3);
        x.attach(0, 0);
        x.attach(2, 0);
        x.goTo(2, 0);
        Check.due("5: watching", x.count(2), 2);
        x.pass(3);
        Check.due("5: time", x.count(3), 3);
        Check.due("5: -1", x.count(-1), SharedConsole.BAD_VALUE);
        Check.due("5: 4", x.count(4), SharedConsole.BAD_VALUE);
        Check.due("6: changes", x.undoCount(), 4);
        x.detach(1);
        Check.due("6: an error is no change", x.undoCount(), 4);
        for (int i = 5; i < 12; i++) {
            x.pass(1);
            Check.due("6: at most eight", x.undoCount(), Math.min(i, 8));
        }
    }

    private static void names() {
        SharedConsole x = Texts.loaded("session ab 4 2;session abcdef 4 2;user abcdez 4 2;user ab 3 1;user a 2 1;");
        Check.due("7: session ab", x.named(false, 1 << 25 | 2 << 20), 0);
        Check.due("7: user ab", x.named(true, 1 << 25 | 2 << 20), 1);
        Check.due("7: six letters", x.named(false, 1 << 25 | 2 << 20 | 3 << 15 | 4 << 10 | 5 << 5 | 6), 1);
        Check.due("7: z", x.named(true, 1 << 25 | 2 << 20 | 3 << 15 | 4 << 10 | 5 << 5 | 26), 0);
        Check.due("7: a", x.named(true, 1 << 25), 2);
        Check.due("7: no session a", x.named(false, 1 << 25), SharedConsole.NOT_FOUND);
        Check.due("7: nothing", x.named(true, 0), SharedConsole.NOT_FOUND);
        Check.due("7: a further bit", x.named(true, 1 << 25 | 1 << 30), SharedConsole.NOT_FOUND);
        Check.due("7: a negative number", x.named(true, 1 << 25 | 1 << 31), SharedConsole.NOT_FOUND);
        Check.due("7: a in the wrong group", x.named(true, 1), SharedConsole.NOT_FOUND);
        Check.due("8: wait", Texts.loaded("set wait 77;").getSetting(SharedConsole.WAIT), 77);
        Check.due("8: shrink", Texts.loaded("set shrink 1;").getSetting(SharedConsole.SHRINK), 1);
        Check.due("8: -1", x.getSetting(-1), SharedConsole.BAD_VALUE);
        Check.due("8: 2", x.getSetting(2), SharedConsole.BAD_VALUE);
    }

    /** Each letter of a word that the text format fixes counts. */
    private static void fixedWords() {
        String[][] statements = {{"", "session", " a 2 1;"}, {"", "user", " a 2 1;"}, {"", "set", " wait 1;"},
            {"set ", "wait", " 1;"}, {"set ", "shrink", " 1;"}};
        for (String[] parts : statements) {
            fine(parts[0] + parts[1] + parts[2], 1);
            for (int i = 0; i < parts[1].length(); i++) {
                String other = parts[1].substring(0, i) + "x" + parts[1].substring(i + 1);
                error(parts[0] + other + parts[2], SharedConsole.SYNTAX_ERROR, parts[0].length());
            }
        }
    }

    public static void main(String[] arguments) {
        newObject();
        feed();
        texts();
        fixedWords();
        load();
        loadReplaces();
        counts();
        names();
        Check.end();
    }
}

/** Promises 14 to 19, 22, 23, 29 to 35, 43 and 44: users, windows, ways of watching, replays and what is written. */
public final class WatchTest {
    private static final int NOT_FOUND = SharedConsole.NOT_FOUND, BAD_VALUE = SharedConsole.BAD_VALUE,
        NOT_ALLOWED = SharedConsole.NOT_ALLOWED;
    private static final int LIVE = SharedConsole.LIVE, STOPPED = SharedConsole.STOPPED, REPLAYING = SharedConsole.REPLAYING;

    private WatchTest() { }

    private static void users() {
        SharedConsole x = Setups.watching("abc");
        Check.due("14: width", x.user(0, 0) * 100 + x.user(2, 0), 416);
        Check.due("14: height", x.user(0, 1) * 100 + x.user(2, 1), 206);
        Check.due("14: way", x.user(0, 2) * 10 + x.user(1, 2), 10 * LIVE);
        Check.due("14: session", x.user(0, 3), 0);
        Check.due("14: no session", x.user(1, 3), NOT_FOUND);
        Check.due("14: position", x.user(0, 4), 3);
        Check.due("14: no position", x.user(1, 4), NOT_FOUND);
        Check.due("14: looks back", x.user(0, 5) + x.user(1, 5), 0);
        Check.due("14: speed", x.user(0, 6), 0);
        x.attach(1, 1);
        x.lookBack(1, 7);
        x.replay(1, 0, 250);
        Check.due("14: replaying", x.user(1, 2), REPLAYING);
        Check.due("14: its session", x.user(1, 3), 1);
        Check.due("14: its speed", x.user(1, 6), 250);
        Check.due("14: still looks back", x.user(1, 5), 7);
        x.goTo(1, 0);
        Check.due("14: stopped", x.user(1, 2), STOPPED);
        Check.due("14: no speed any more", x.user(1, 6), 0);
        x.detach(1);
        Check.due("14: looks back as before", x.user(1, 5), 7);
        Check.due("14: 7", x.user(0, 7), BAD_VALUE);
        Check.due("14: -1", x.user(0, -1), BAD_VALUE);
        Check.dueThrow("14: user 3", () -> x.user(3, 9));
        Check.dueThrow("14: user -1", () -> x.user(-1, 9));
    }

    private static void windows() {
        SharedConsole x = Setups.watching("abcdefghij");
        Check.due("15: the screen itself", Texts.window(x, 0), "efgh|ij__");
        x.attach(1, 0);
        Check.due("15: the cursor's line is the lowest", Texts.window(x, 1), "ij_");
        x.attach(2, 0);
        Check.due("15: from line 0 on if there are fewer lines", Texts.window(x, 2), "abcd____________|efgh____________|"
            + "ij______________|________________|________________|________________");
        Check.due("16: lowest row", x.cursorRow(0), 1);
        Check.due("16: only row", x.cursorRow(1), 0);
        Check.due("16: line 2", x.cursorRow(2), 2);
        x.lookBack(0, 1);
        Check.due("15: one line back", Texts.window(x, 0), "abcd|efgh");
        Check.due("16: the cursor is below", x.cursorRow(0), NOT_FOUND);
        x.lookBack(0, 40);
        Check.due("15: no further than to line 0", Texts.window(x, 0), "abcd|efgh");
        x.lookBack(1, 2);
        Check.due("15: two lines back", Texts.window(x, 1), "abc");
        x.lookBack(1, 3);
        Check.due("15: not three", Texts.window(x, 1), "abc");
        x.lookBack(2, 2);
        Check.due("16: from line 0 all the same", x.cursorRow(2), 2);
        x.goTo(2, 3);
        Check.due("15: at a position", Texts.window(x, 2).substring(0, 20), "abc_____________|___");
        Check.due("16: at a position", x.cursorRow(2), 0);
        Check.due("15: row 6", x.shown(2, 6, 0), NOT_FOUND);
        Check.due("15: row -1", x.shown(2, -1, 0), NOT_FOUND);
        Check.due("15: column 16", x.shown(2, 0, 16), NOT_FOUND);
        Check.due("15: column -1", x.shown(2, 0, -1), NOT_FOUND);
        Check.due("15: the last place", x.shown(2, 5, 15), SharedConsole.SPACE);
        Check.due("15: outside of a small window", x.shown(1, 0, 3) + x.shown(1, 1, 0), 2 * NOT_FOUND);
        x.detach(2);
        Check.due("15: watches nothing", x.shown(2, 0, 0), NOT_FOUND);
        Check.due("16: watches nothing", x.cursorRow(2), NOT_FOUND);
        Check.dueThrow("15: user 3", () -> x.shown(3, 0, 0));
        Check.dueThrow("15: user -1", () -> x.shown(-1, 9, 0));
        Check.dueThrow("16: user 3", () -> x.cursorRow(3));
        Check.dueThrow("16: user -1", () -> x.cursorRow(-1));
    }

    private static void rowsBelowTheCursor() {
        SharedConsole x = Texts.loaded("session s 4 4;user a 4 2;user b 5 6;");
        x.attach(0, 0);
        x.attach(1, 0);
        x.request(0);
        Texts.type(x, 0, "a/b/c/d#e/f");
        Check.due("15: rows below the cursor are not shown by a low window", Texts.window(x, 0), "e___|f___");
        Check.due("15: but by a high one, and then nothing", Texts.window(x, 1), "e____|f____|_____|_____|_____|_____");
        Texts.type(x, 0, "/g/h/i/j");
        Check.due("15: the lines that went up come first", Texts.window(x, 1), "e____|f____|g____|h____|i____|j____");
        Texts.type(x, 0, "#");
        Check.due("15: cursor in line 2", x.cursorRow(1), 2);
        Check.due("15: rows of the screen behind the cursor", Texts.window(x, 1), "e____|f____|_____|_____|_____|_____");
    }

    private static void fortyLinesBack() {
        SharedConsole x = Texts.loaded("session s 2 1;user a 2 1;");
        x.attach(0, 0);
        x.request(0);
        for (int line = 0; line < 50; line++) {
            Texts.type(x, 0, (char) ('a' + line % 26) + "/");
        }
        x.lookBack(0, 40);
        Check.due("15: the first of the kept lines", Texts.window(x, 0), "k_");
        x.lookBack(0, 39);
        Check.due("15: the next one", Texts.window(x, 0), "l_");
    }

    private static void watchers() {
        SharedConsole x = Setups.watching("abc");
        Check.due("17: live", x.watchers(0, LIVE), 1);
        Check.due("29: two watch", x.attach(2, 0), 2);
        Check.due("17: live", x.watchers(0, LIVE), 5);
        Check.due("29: three watch", x.attach(1, 0), 3);
        x.goTo(1, 2);
        x.replay(2, 0, 100);
        Check.due("17: each in its way", x.watchers(0, LIVE) * 100 + x.watchers(0, STOPPED) * 10 + x.watchers(0, REPLAYING), 124);
        Check.due("17: nothing", x.watchers(0, SharedConsole.NOTHING), 0);
        Check.due("17: 4", x.watchers(0, 4), 0);
        Check.due("17: -1", x.watchers(0, -1), 0);
        Check.due("17: the other session", x.watchers(1, LIVE) + x.watchers(1, STOPPED) + x.watchers(1, REPLAYING), 0);
        Check.due("29: those who do not watch LIVE count too", x.attach(0, 0), 3);
        Check.due("30: two are left", x.detach(1), 2);
        Check.due("17: none stopped", x.watchers(0, STOPPED), 0);
        Check.dueThrow("17: session 2", () -> x.watchers(2, 9));
        Check.dueThrow("17: session -1", () -> x.watchers(-1, 9));
    }

    private static void rightSizes() {
        SharedConsole x = Setups.watching("abc");
        x.attach(1, 0);
        x.attach(2, 0);
        Check.due("18: its own size", x.rightSize(0, false) * 10 + x.rightSize(0, true), 42);
        Check.due("19: whatever SHRINK is", x.narrowest(0, false) * 10 + x.narrowest(0, true), 11);
        x.setSetting(SharedConsole.SHRINK, 1);
        Check.due("18: the least", x.rightSize(0, false) * 10 + x.rightSize(0, true), 31);
        x.goTo(1, 0);
        Check.due("18: only LIVE counts", x.rightSize(0, false) * 10 + x.rightSize(0, true), 42);
        Check.due("19: a window of its own size is none", x.narrowest(0, false) + x.narrowest(0, true), 2 * NOT_FOUND);
        x.goLive(1);
        x.window(0, 3, 1);
        Check.due("19: ties by lower index", x.narrowest(0, false) + x.narrowest(0, true), 0);
        x.window(0, 2, 2);
        x.window(2, 16, 1);
        Check.due("18: from two windows", x.rightSize(0, false) * 10 + x.rightSize(0, true), 21);
        Check.due("19: two users", x.narrowest(0, false) * 10 + x.narrowest(0, true), 1);
        Check.due("18: the other session", x.rightSize(1, false) * 10 + x.rightSize(1, true), 63);
        Check.due("19: the other session", x.narrowest(1, false), NOT_FOUND);
        Check.dueThrow("18: session 2", () -> x.rightSize(2, true));
        Check.dueThrow("18: session -1", () -> x.rightSize(-1, false));
        Check.dueThrow("19: session 2", () -> x.narrowest(2, true));
        Check.dueThrow("19: session -1", () -> x.narrowest(-1, false));
    }

    private static void replays() {
        SharedConsole x = Setups.watching("ab");
        x.pass(10);
        Texts.type(x, 0, "c");
        x.pass(5);
        Texts.type(x, 0, "d");
        x.pass(100);
        x.attach(1, 0);
        Check.due("33: the first events come at once", x.replay(1, 0, 30), 2);
        x.pass(33);
        Check.due("14: not before its time", x.user(1, 4), 2);
        Check.due("23: two events behind", x.behind(1), 2);
        x.pass(1);
        Check.due("14: 34 ticks at 30 percent are 10", x.user(1, 4), 3);
        Check.due("22: position 3", x.reachedAt(1, 3), 149);
        Check.due("22: position 4", x.reachedAt(1, 4), 165);
        Check.due("22: position 2", x.reachedAt(1, 2), 115);
        Check.due("22: position 0", x.reachedAt(1, 0), 115);
        Check.due("22: position 5", x.reachedAt(1, 5), NOT_FOUND);
        Check.due("22: position -1", x.reachedAt(1, -1), NOT_FOUND);
        x.pass(16);
        Check.due("14: at 165", x.user(1, 4), 4);
        Check.due("33: from 2 on", x.replay(1, 2, 1000), 3);
        Check.due("22: before where it starts", x.reachedAt(1, 1), NOT_FOUND);
        Check.due("22: where it starts", x.reachedAt(1, 2), 165);
        Check.due("22: half a tick is a whole one", x.reachedAt(1, 4), 166);
        x.pass(1);
        Check.due("14: ten times as fast", x.user(1, 4), 4);
        Check.due("33: from the end", x.replay(1, 4, 10), 4);
        x.pass(3);
        Texts.type(x, 0, "e");
        Check.due("14: the next event comes at once", x.user(1, 4), 5);
        x.pass(1);
        Texts.type(x, 0, "f");
        Check.due("14: one more is late", x.user(1, 4), 5);
        x.pass(9);
        Check.due("14: passed while nothing came", x.user(1, 4), 6);
        Check.due("22: in the past", x.reachedAt(1, 6), 176);
        Check.due("22: LIVE", x.reachedAt(0, 0), NOT_FOUND);
        x.replay(1, 4, 11);
        Check.due("22: a tick at 11 percent is 9 ticks and a bit", x.reachedAt(1, 6), x.count(3) + 10);
        x.goTo(1, 3);
        Check.due("22: stopped", x.reachedAt(1, 3), NOT_FOUND);
        Check.due("22: watches nothing", x.reachedAt(2, 0), NOT_FOUND);
        Check.dueThrow("22: user 3", () -> x.reachedAt(3, 0));
        Check.dueThrow("22: user -1", () -> x.reachedAt(-1, 0));
    }

    private static void replayErrors() {
        SharedConsole x = Setups.watching("ab");
        Check.due("33: user 3", x.replay(3, 9, 9), NOT_FOUND);
        Check.due("33: user -1", x.replay(-1, 9, 9), NOT_FOUND);
        Check.due("33: watches nothing", x.replay(1, 9, 9), NOT_ALLOWED);
        Check.due("33: speed 9", x.replay(0, 0, 9), BAD_VALUE);
        Check.due("33: speed 1001", x.replay(0, 0, 1001), BAD_VALUE);
        Check.due("33: position 3", x.replay(0, 3, 10), BAD_VALUE);
        Check.due("33: position -1", x.replay(0, -1, 10), BAD_VALUE);
        Check.due("33: nothing changed", x.user(0, 2) * 100 + x.undoCount(), 103);
        Check.due("33: speed 10", x.replay(0, 2, 10), 2);
        Check.due("33: speed 1000", x.replay(0, 1, 1000), 2);
        Check.due("33: it is one change", x.undoCount(), 5);
        Check.due("33: it lost its control", x.session(0, 3), NOT_FOUND);
        // when the one narrow window is not LIVE any more, the session gets wide again: that event comes at once
        SharedConsole y = Texts.loaded("session s 4 2;user a 3 1;set shrink 1;");
        y.attach(0, 0);
        y.pass(1);
        Check.due("33: its position then, the new event too", y.replay(0, 1, 100), 2);
        Check.due("14: which it stays", y.user(0, 4), 2);
    }

    private static void stops() {
        SharedConsole x = Setups.watching("abc");
        Check.due("31: user 3", x.goTo(3, 9), NOT_FOUND);
        Check.due("31: user -1", x.goTo(-1, 9), NOT_FOUND);
        Check.due("31: watches nothing", x.goTo(1, 9), NOT_ALLOWED);
        Check.due("31: position 4", x.goTo(0, 4), BAD_VALUE);
        Check.due("31: position -1", x.goTo(0, -1), BAD_VALUE);
        x.attach(1, 0);
        Check.due("31: from LIVE", x.goTo(1, 2), 3);
        Check.due("31: from a stop", x.goTo(1, 0), 2);
        Check.due("31: to the last", x.goTo(1, 3), 0);
        Texts.type(x, 0, "d");
        Check.due("31: it stays", x.user(1, 4), 3);
        Check.due("23: one behind", x.behind(1), 1);
        Check.due("23: LIVE is not behind", x.behind(0), 0);
        Check.due("23: watches nothing", x.behind(2), 0);
        x.goTo(1, 1);
        Check.due("23: three behind", x.behind(1), 3);
        Check.due("15: what is shown", Texts.window(x, 1), "a__");
        Check.due("32: from a stop", x.goLive(1), 1);
        Check.due("32: LIVE", x.user(1, 2) * 10 + x.user(1, 4), 14);
        Check.due("32: from LIVE", x.goLive(1), 4);
        Check.due("32: who is LIVE keeps its control", x.goLive(0) * 10 + x.session(0, 3), 40);
        x.replay(1, 3, 10);
        Check.due("32: from a replay", x.goLive(1), 4);
        x.replay(1, 2, 10);
        Check.due("31: from a replay", x.goTo(1, 1), 4);
        Check.due("32: user 3", x.goLive(3), NOT_FOUND);
        Check.due("32: user -1", x.goLive(-1), NOT_FOUND);
        Check.due("32: watches nothing", x.goLive(2), NOT_ALLOWED);
        Check.dueThrow("23: user 3", () -> x.behind(3));
        Check.dueThrow("23: user -1", () -> x.behind(-1));
    }

    private static void attaching() {
        SharedConsole x = Setups.watching("abc");
        Check.due("29: user 3", x.attach(3, 0), NOT_FOUND);
        Check.due("29: user -1", x.attach(-1, 0), NOT_FOUND);
        Check.due("29: session 2", x.attach(0, 2), NOT_FOUND);
        Check.due("29: session -1", x.attach(0, -1), NOT_FOUND);
        Check.due("29: nothing changed", x.session(0, 3) * 10 + x.undoCount(), 3);
        x.lookBack(0, 5);
        Check.due("29: another session", x.attach(0, 1), 1);
        Check.due("29: looks back no lines", x.user(0, 5), 0);
        Check.due("29: watches that", x.user(0, 3), 1);
        Check.due("29: left the other", x.watchers(0, LIVE), 0);
        Check.due("29: lost its control", x.session(0, 3), NOT_FOUND);
        Check.due("29: position", x.user(0, 4), 0);
        x.attach(1, 0);
        x.goTo(1, 0);
        x.attach(1, 0);
        Check.due("29: LIVE again", x.user(1, 2) * 10 + x.user(1, 4), 13);
        Check.due("30: user 3", x.detach(3), NOT_FOUND);
        Check.due("30: user -1", x.detach(-1), NOT_FOUND);
        Check.due("30: watches nothing", x.detach(2), NOT_ALLOWED);
        Check.due("30: nobody is left", x.detach(0), 0);
        Check.due("30: watches nothing", x.user(0, 2), SharedConsole.NOTHING);
        Check.due("30: again", x.detach(0), NOT_ALLOWED);
        x.attach(0, 0);
        x.attach(2, 0);
        Check.due("30: two are left", x.detach(0), 2);
    }

    private static void lookingBack() {
        SharedConsole x = Setups.watching("abc");
        Check.due("34: before", x.lookBack(0, 40), 0);
        Check.due("34: before", x.lookBack(0, 0), 40);
        Check.due("34: 41", x.lookBack(0, 41), BAD_VALUE);
        Check.due("34: -1", x.lookBack(0, -1), BAD_VALUE);
        Check.due("34: watches nothing", x.lookBack(1, 41), NOT_ALLOWED);
        Check.due("34: user 3", x.lookBack(3, 41), NOT_FOUND);
        Check.due("34: user -1", x.lookBack(-1, 41), NOT_FOUND);
        x.lookBack(0, 3);
        x.goTo(0, 0);
        x.goLive(0);
        x.replay(0, 0, 10);
        Check.due("34: stays in all ways", x.user(0, 5), 3);
    }

    private static void windowSizes() {
        SharedConsole x = Setups.watching("abc");
        Check.due("35: before", x.window(0, 16, 6), 4);
        Check.due("35: before", x.window(0, 2, 1), 16);
        Check.due("35: now", x.user(0, 0) * 10 + x.user(0, 1), 21);
        Check.due("35: width 1", x.window(0, 1, 1), BAD_VALUE);
        Check.due("35: width 17", x.window(0, 17, 1), BAD_VALUE);
        Check.due("35: height 0", x.window(0, 2, 0), BAD_VALUE);
        Check.due("35: height 7", x.window(0, 2, 7), BAD_VALUE);
        Check.due("35: user 3", x.window(3, 17, 7), NOT_FOUND);
        Check.due("35: user -1", x.window(-1, 2, 2), NOT_FOUND);
        Check.due("35: who watches nothing", x.window(1, 9, 5), 3);
        Check.due("35: no event without SHRINK", x.session(0, 2), 3);
        x.setSetting(SharedConsole.SHRINK, 1);
        Check.due("35: an event with SHRINK", x.session(0, 2), 4);
        x.window(0, 2, 1);
        Check.due("35: none if the size stays", x.session(0, 2), 4);
        x.window(0, 3, 1);
        Check.due("35: one if it does not", x.session(0, 2), 5);
        x.window(1, 2, 1);
        Check.due("35: none for who watches nothing", x.session(0, 2), 5);
    }

    private static void sizedEvents() {
        SharedConsole x = Texts.loaded("session s 4 2;session t 6 3;user a 3 2;user b 5 1;set shrink 1;");
        x.attach(0, 0);
        Check.due("29: a narrow user came", x.session(0, 2), 1);
        x.attach(0, 1);
        Check.due("29: both sessions change", x.session(0, 2) * 10 + x.session(1, 2), 21);
        x.goTo(0, 0);
        Check.due("31: nobody LIVE", x.session(1, 2), 2);
        x.goLive(0);
        Check.due("32: LIVE again", x.session(1, 2), 3);
        x.detach(0);
        Check.due("30: gone", x.session(1, 2), 4);
        Check.due("11: wide again", x.screen(1, 4, 0) * 10 + x.screen(1, 4, 1), 63);
        x.attach(1, 0);
        Check.due("29: lower only", x.event(0, 2, 1) * 10 + x.event(0, 2, 2), 41);
        x.setSetting(SharedConsole.SHRINK, 0);
        Check.due("41: its own size", x.event(0, 3, 1) * 10 + x.event(0, 3, 2), 42);
    }

    private static void fullSession() {
        SharedConsole x = Texts.loaded("session s 4 2;user a 3 2;user b 2 1;");
        x.attach(0, 0);
        x.request(0);
        for (int i = 0; i < 50; i++) {
            Texts.type(x, 0, "abcdef");
        }
        Check.due("36: 300 events", x.session(0, 2), 300);
        x.setSetting(SharedConsole.SHRINK, 1);
        Check.due("41: no further event", x.session(0, 2), 300);
        Check.due("18: the size would be another", x.rightSize(0, false) * 10 + x.screen(0, 300, 0), 34);
        x.undo();
        x.undo();
        Check.due("42: six fewer", x.session(0, 2), 294);
        x.setSetting(SharedConsole.SHRINK, 1);
        Check.due("41: the last but five", x.session(0, 2), 295);
        Check.due("36: six are too many", Texts.type(x, 0, "abcdef"), SharedConsole.FULL);
        Check.due("36: five are not", Texts.type(x, 0, "abcde"), 300);
        Check.due("20: full", x.whyNot(0), 5);
        Check.due("36: not allowed then", Texts.type(x, 0, "a"), NOT_ALLOWED);
        x.attach(1, 0);
        Check.due("29: no event", x.session(0, 2), 300);
    }

    private static void writing() {
        SharedConsole x = Setups.watching("a_cdefghxyz");
        Check.due("44: nothing yet", x.outputAt(0), NOT_FOUND);
        Check.due("43: rows", Texts.written(x, 0), "efgh\nxyz \n");
        Check.due("44: behind the last", x.outputAt(10), NOT_FOUND);
        Check.due("44: -1", x.outputAt(-1), NOT_FOUND);
        x.attach(2, 0);
        Check.due("43: the greatest window", x.write(2), 102);
        Check.due("43: a space for SPACE", Texts.output(x, 17), "a cd            \n");
        Check.due("44: the last one", x.outputAt(101), 10);
        Check.due("44: behind it", x.outputAt(102), NOT_FOUND);
        x.attach(1, 0);
        Check.due("43: replaces", Texts.written(x, 1), "xyz\n");
        Check.due("44: all of it", x.outputAt(4), NOT_FOUND);
        Check.due("43: is no change", x.undoCount(), 7 - 1);
        x.undo();
        Check.due("42: the output stays", Texts.output(x, 4), "xyz\n");
        Check.dueThrow("43: user 3", () -> x.write(3));
        Check.dueThrow("43: user -1", () -> x.write(-1));
        Check.due("43: which changes nothing", Texts.output(x, 4), "xyz\n");
        Check.due("43: watches nothing", x.write(1), 0);
        Check.due("44: nothing", x.outputAt(0), NOT_FOUND);
    }

    public static void main(String[] arguments) {
        users();
        windows();
        rowsBelowTheCursor();
        fortyLinesBack();
        watchers();
        rightSizes();
        replays();
        replayErrors();
        stops();
        attaching();
        lookingBack();
        windowSizes();
        sizedEvents();
        fullSession();
        writing();
        Check.end();
    }
}

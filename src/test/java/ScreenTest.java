/** Promises 9 to 13 and 24 to 27: sessions, events, screens and what is asked of them. */
public final class ScreenTest {
    private static final int NOT_FOUND = SharedConsole.NOT_FOUND, BAD_VALUE = SharedConsole.BAD_VALUE;

    private ScreenTest() { }

    private static void typed(int width, int height, String keys, String screen) {
        SharedConsole x = Setups.typing(width, height);
        Texts.type(x, 0, keys);
        Check.due("12: " + width + " by " + height + " behind " + keys, Texts.screen(x, 0), screen);
    }

    private static void symbols() {
        typed(4, 2, "", "____|____ 0,0");
        typed(4, 2, "ab", "ab__|____ 0,2");
        typed(4, 2, "abcd", "abcd|____ 1,0");
        typed(4, 2, "abcdef", "abcd|ef__ 1,2");
        typed(4, 2, "abcdefgh", "efgh|____ 1,0");
        typed(4, 2, "a_b", "a_b_|____ 0,3");
        typed(4, 2, "ab/c", "ab__|c___ 1,1");
        typed(4, 2, "ab/c/d", "c___|d___ 1,1");
        typed(4, 2, "abc\rz", "zbc_|____ 0,1");
        typed(4, 2, "abcdef\rz", "abcd|zf__ 1,1");
        typed(4, 2, "abc<<z", "azc_|____ 0,2");
        typed(4, 2, "a<<<z", "z___|____ 0,1");
        typed(4, 2, "abcd<z", "abcd|z___ 1,1");
        typed(4, 2, "abc<_", "ab__|____ 0,3");
        typed(4, 2, "abcde#", "____|____ 0,0");
        typed(4, 2, "abcde#z", "z___|____ 0,1");
        typed(2, 1, "abc", "c_ 0,1");
        typed(16, 6, "zyxwvutsrqponmlkj", "zyxwvutsrqponmlk|j_______________|________________|________________|"
            + "________________|________________ 1,1");
        typed(16, 6, "a/b/c/d/e/f", "a_______________|b_______________|c_______________|d_______________|e_______________|"
            + "f_______________ 5,1");
    }

    private static void upperLines() {
        SharedConsole x = Setups.typing(3, 2);
        Texts.type(x, 0, "ab/cd/ef/#/g");
        int events = x.session(0, 2);
        Check.due("11: lines that went up", x.screen(0, events, 4), 2);
        Check.due("13: first", Texts.above(x, 0, events, 0), "ab______________");
        Check.due("13: second, CLEAR left it", Texts.above(x, 0, events, 1), "cd______________");
        Check.due("13: no third", x.above(0, events, 2, 0), NOT_FOUND);
        Check.due("13: line -1", x.above(0, events, -1, 0), NOT_FOUND);
        Check.due("13: column -1", x.above(0, events, 0, -1), NOT_FOUND);
        Check.due("13: column 15", x.above(0, events, 0, 15), SharedConsole.SPACE);
        Check.due("13: column 16", x.above(0, events, 0, 16), NOT_FOUND);
        Check.due("13: earlier", x.above(0, 5, 0, 0), NOT_FOUND);
        Check.due("13: just then", x.above(0, 6, 0, 0), 1);
        Check.dueThrow("13: no session", () -> x.above(2, 0, 0, 0));
        Check.dueThrow("13: position -1", () -> x.above(0, -1, 0, 0));
        Check.dueThrow("13: position behind the last", () -> x.above(0, events + 1, 0, 0));
    }

    private static void fortyLines() {
        SharedConsole x = Setups.typing(2, 1);
        for (int line = 0; line < 45; line++) {
            Texts.type(x, 0, (char) ('a' + line % 26) + "/");
        }
        Check.due("13: forty are kept", x.above(0, 90, 39, 0), 45 - 26);
        Check.due("13: no more", x.above(0, 90, 40, 0), NOT_FOUND);
        Check.due("13: the first of them", x.above(0, 90, 0, 0), 6);
        Check.due("13: at position 80", x.above(0, 80, 0, 0) * 100 + x.above(0, 80, 39, 0), 114);
        Check.due("13: at position 82", x.above(0, 82, 0, 0) * 100 + x.above(0, 82, 39, 0), 215);
        Check.due("11: forty", x.screen(0, 80, 4), 40);
        Check.due("11: the kept ones", x.screen(0, 90, 4), 40);
        Check.due("11: thirty-nine", x.screen(0, 78, 4), 39);
    }

    private static void sizes() {
        SharedConsole x = Setups.typing(4, 3);
        Texts.type(x, 0, "abcdef/gh");
        Check.due("12: before", Texts.screen(x, 0), "abcd|ef__|gh__ 2,2");
        x.setSetting(SharedConsole.SHRINK, 1);
        x.window(0, 2, 2);
        Check.due("12: narrower and lower", Texts.screen(x, 0), "ef|gh 1,1");
        Check.due("12: the cursor's column", x.screen(0, 10, 3), 1);
        Check.due("13: what went up has the new width", Texts.above(x, 0, 10, 0), "ab______________");
        x.window(0, 16, 6);
        Check.due("12: wide again", Texts.screen(x, 0), "ef__|gh__|____ 1,1");
        Check.due("13: what went up stays", Texts.above(x, 0, 11, 0), "ab______________");
        Check.due("11: one line", x.screen(0, 11, 4), 1);
        Texts.type(x, 0, "#a");
        x.window(0, 16, 1);
        Check.due("12: rows below are lost", Texts.screen(x, 0), "a___ 0,1");
        Check.due("11: none went up", x.screen(0, 14, 4), 1);
        x.window(0, 16, 6);
        Texts.type(x, 0, "/b/c");
        x.window(0, 3, 1);
        Check.due("12: two rows go up", Texts.screen(x, 0), "c__ 0,1");
        Check.due("13: the former", Texts.above(x, 0, 20, 1), "a_______________");
        Check.due("13: the latter", Texts.above(x, 0, 20, 2), "b_______________");
        Check.due("13: the first of all", Texts.above(x, 0, 20, 0), "ab______________");
        Check.due("13: not of a former position", Texts.above(x, 0, 9, 0), "!".repeat(16));
    }

    private static void longLinesStay() {
        SharedConsole x = Setups.typing(4, 1);
        Texts.type(x, 0, "abcdefg");
        x.setSetting(SharedConsole.SHRINK, 1);
        x.window(0, 2, 1);
        Check.due("12: cut", Texts.screen(x, 0), "ef 0,1");
        Check.due("13: lines above are as long as they were", Texts.above(x, 0, 8, 0), "abcd____________");
        x.window(0, 4, 1);
        Check.due("12: cut places are empty", Texts.screen(x, 0), "ef__ 0,1");
    }

    private static void sessions() {
        SharedConsole x = Texts.loaded("session s 5 3;session t 16 6;user a 2 2;user b 2 2;");
        x.attach(0, 1);
        x.request(0);
        x.attach(1, 1);
        Texts.type(x, 0, "abc");
        Check.due("9: nobody controls", x.session(0, 3), NOT_FOUND);
        Check.due("9: nobody asks", x.session(1, 4), NOT_FOUND);
        Check.due("9: not asked", x.session(1, 5), NOT_FOUND);
        x.pass(4);
        x.request(1);
        Check.due("9: widths", x.session(0, 0) * 100 + x.session(1, 0), 516);
        Check.due("9: heights", x.session(0, 1) * 100 + x.session(1, 1), 306);
        Check.due("9: events", x.session(0, 2) * 100 + x.session(1, 2), 3);
        Check.due("9: who controls", x.session(1, 3), 0);
        Check.due("9: who asks", x.session(1, 4), 1);
        Check.due("9: since when", x.session(1, 5), 4);
        Check.due("9: 6", x.session(1, 6), BAD_VALUE);
        Check.due("9: -1", x.session(1, -1), BAD_VALUE);
        x.setSetting(SharedConsole.SHRINK, 1);
        Check.due("9: its own width stays", x.session(1, 0), 16);
        Check.dueThrow("9: session -1", () -> x.session(-1, 9));
        Check.dueThrow("9: session 2", () -> x.session(2, 9));
    }

    private static void events() {
        SharedConsole x = Setups.typing(5, 3);
        Texts.type(x, 0, "b#");
        x.pass(3);
        x.setSetting(SharedConsole.SHRINK, 1);
        x.pass(2);
        x.window(0, 4, 2);
        Check.due("10: typed", x.event(0, 0, 0), SharedConsole.TYPED);
        Check.due("10: symbol", x.event(0, 0, 1) * 100 + x.event(0, 1, 1), 231);
        Check.due("10: no height", x.event(0, 0, 2), 0);
        Check.due("10: time", x.event(0, 0, 3), 0);
        Check.due("10: sized", x.event(0, 2, 0), SharedConsole.SIZED);
        Check.due("10: width", x.event(0, 2, 1), 4);
        Check.due("10: height", x.event(0, 2, 2), 2);
        Check.due("10: its time", x.event(0, 2, 3), 5);
        Check.due("10: no such event", x.event(0, 3, 0), NOT_FOUND);
        Check.due("10: that is checked first", x.event(0, 3, 9), NOT_FOUND);
        Check.due("10: event -1", x.event(0, -1, 9), NOT_FOUND);
        Check.due("10: 4", x.event(0, 2, 4), BAD_VALUE);
        Check.due("10: -1", x.event(0, 2, -1), BAD_VALUE);
        Check.due("10: none of the other session", x.event(1, 0, 0), NOT_FOUND);
        Check.dueThrow("10: session -1", () -> x.event(-1, 0, 9));
        Check.dueThrow("10: session 2", () -> x.event(2, 9, 9));
    }

    private static void screens() {
        SharedConsole x = Setups.typing(5, 3);
        Texts.type(x, 0, "ab/c");
        Check.due("11: width", x.screen(0, 4, 0), 5);
        Check.due("11: height", x.screen(0, 4, 1), 3);
        Check.due("11: row", x.screen(0, 4, 2), 1);
        Check.due("11: column", x.screen(0, 4, 3), 1);
        Check.due("11: lines that went up", x.screen(0, 4, 4), 0);
        Check.due("11: at position 2", x.screen(0, 2, 2) * 10 + x.screen(0, 2, 3), 2);
        Check.due("11: 5", x.screen(0, 4, 5), BAD_VALUE);
        Check.due("11: -1", x.screen(0, 4, -1), BAD_VALUE);
        Check.dueThrow("11: session -1", () -> x.screen(-1, 0, 9));
        Check.dueThrow("11: session 2", () -> x.screen(2, 0, 0));
        Check.dueThrow("11: position -1", () -> x.screen(0, -1, 9));
        Check.dueThrow("11: position 5", () -> x.screen(0, 5, 0));
        Check.due("12: at position 0", Texts.screen(x, 0, 0), "_____|_____|_____ 0,0");
        Check.due("12: at position 3", Texts.screen(x, 0, 3), "ab___|_____|_____ 1,0");
        Check.due("12: row 3", x.at(0, 4, 3, 0), NOT_FOUND);
        Check.due("12: row -1", x.at(0, 4, -1, 0), NOT_FOUND);
        Check.due("12: column 5", x.at(0, 4, 0, 5), NOT_FOUND);
        Check.due("12: column -1", x.at(0, 4, 0, -1), NOT_FOUND);
        Check.due("12: the last place", x.at(0, 4, 2, 4), SharedConsole.SPACE);
        Check.dueThrow("12: session 2", () -> x.at(2, 0, 0, 0));
        Check.dueThrow("12: position 5", () -> x.at(0, 5, 9, 9));
        Check.dueThrow("12: position -1", () -> x.at(0, -1, 9, 9));
    }

    private static void words() {
        SharedConsole x = Setups.typing(4, 2);
        Texts.type(x, 0, "xabcab/zz");
        Check.due("24: a part of a row", x.firstShowing(0, Texts.keys("bc")), 4);
        Check.due("24: one letter", x.firstShowing(0, Texts.keys("x")), 1);
        Check.due("24: a whole row", x.firstShowing(0, Texts.keys("xabc")), 4);
        Check.due("24: not over the end of a row", x.firstShowing(0, Texts.keys("ca")), NOT_FOUND);
        Check.due("24: the lower row", x.firstShowing(0, Texts.keys("zz")), 9);
        Check.due("24: never", x.firstShowing(0, Texts.keys("zzz")), NOT_FOUND);
        Check.due("24: too long for a row", x.firstShowing(0, Texts.keys("xabca")), NOT_FOUND);
        Check.due("24: 0", x.firstShowing(0, 0), NOT_FOUND);
        Check.due("24: SPACE is no letter", x.firstShowing(0, Texts.keys("_")), NOT_FOUND);
        Check.due("24: nor inside", x.firstShowing(0, Texts.keys("z_")), NOT_FOUND);
        Check.due("24: a gap", x.firstShowing(0, 24 << 25 | 1 << 15), NOT_FOUND);
        Check.due("24: a gap at the start", x.firstShowing(0, 24), NOT_FOUND);
        Check.due("24: bit 30", x.firstShowing(0, 1 << 30 | 24 << 25), NOT_FOUND);
        Check.due("24: bit 31", x.firstShowing(0, 1 << 31 | 24 << 25), NOT_FOUND);
        Check.due("24: another session", x.firstShowing(1, 24 << 25), NOT_FOUND);
        Check.dueThrow("24: session 2", () -> x.firstShowing(2, 0));
        Check.dueThrow("24: session -1", () -> x.firstShowing(-1, 0));
        // written from behind: the word is there when its last letter is put in
        Texts.type(x, 0, "#_q\rp");
        Check.due("24: from behind", x.firstShowing(0, Texts.keys("pq")), 14);
        SharedConsole y = Setups.typing(2, 1);
        Texts.type(y, 0, "ab");
        Check.due("24: a row that went up at once is on no screen", y.firstShowing(0, Texts.keys("ab")), NOT_FOUND);
        SharedConsole z = Setups.typing(16, 1);
        Texts.type(z, 0, "aaaaaaaabcdef");
        Check.due("24: six letters", z.firstShowing(0, Texts.keys("abcdef")), 13);
    }

    private static void differences() {
        SharedConsole x = Setups.typing(4, 3);
        Texts.type(x, 0, "ab/c/_d");
        Check.due("25: the same", x.firstDifference(0, 7, 7), NOT_FOUND);
        Check.due("25: SPACE typed makes none", x.firstDifference(0, 5, 6), NOT_FOUND);
        Check.due("25: first place", x.firstDifference(0, 0, 7), 0);
        Check.due("25: column 1", x.firstDifference(0, 7, 1), 1);
        Check.due("25: row 1", x.firstDifference(0, 3, 7), 16);
        Check.due("25: row 2, column 1", x.firstDifference(0, 7, 6), 33);
        Check.dueThrow("25: a", () -> x.firstDifference(0, 8, 0));
        Check.dueThrow("25: b", () -> x.firstDifference(0, 0, 8));
        Check.dueThrow("25: a is -1", () -> x.firstDifference(0, -1, 0));
        Check.dueThrow("25: b is -1", () -> x.firstDifference(0, 0, -1));
        Check.dueThrow("25: session 2", () -> x.firstDifference(2, 0, 0));
        x.setSetting(SharedConsole.SHRINK, 1);
        x.window(0, 2, 6);
        x.window(0, 16, 6);
        Check.due("25: only places that both have", x.firstDifference(0, 0, 8) * 100 + x.firstDifference(0, 7, 8), -1);
        SharedConsole y = Setups.typing(4, 2);
        Texts.type(y, 0, "abc");
        y.setSetting(SharedConsole.SHRINK, 1);
        y.window(0, 2, 1);
        Check.due("25: cut places are in one alone", y.firstDifference(0, 3, 4), NOT_FOUND);
        Check.due("25: the other way round", y.firstDifference(0, 4, 3), NOT_FOUND);
        y.window(0, 16, 6);
        Check.due("25: cut places are empty then", y.firstDifference(0, 3, 5), 2);
        SharedConsole z = Setups.typing(4, 2);
        Texts.type(z, 0, "x/x");
        z.setSetting(SharedConsole.SHRINK, 1);
        z.window(0, 16, 1);
        Check.due("25: the lower row is in one alone", z.firstDifference(0, 3, 4), NOT_FOUND);
        Check.due("25: the other way round too", z.firstDifference(0, 4, 3), NOT_FOUND);
    }

    private static void fullness() {
        SharedConsole x = Setups.typing(3, 2);
        Check.due("26: empty", x.fullness(0, 0), 0.0f);
        Texts.type(x, 0, "ab_c");
        Check.due("26: two of six", x.fullness(0, 3), 2.0f / 6.0f);
        Check.due("26: three of six", x.fullness(0, 4), 0.5f);
        Texts.type(x, 0, "de\rxyz");
        Check.due("26: full but for a row", x.fullness(0, 10), 0.5f);
        Check.dueThrow("26: session 2", () -> x.fullness(2, 0));
        Check.dueThrow("26: position -1", () -> x.fullness(0, -1));
        Check.dueThrow("26: position 11", () -> x.fullness(0, 11));
    }

    private static void typists() {
        SharedConsole x = Texts.loaded("session s 5 3;session t 16 6;user a 4 2;user b 2 2;");
        x.attach(0, 0);
        x.request(0);
        Texts.type(x, 0, "abc");
        x.setSetting(SharedConsole.SHRINK, 1);
        x.attach(0, 1);
        x.request(0);
        Texts.type(x, 0, "/#");
        x.attach(1, 0);
        x.request(1);
        Texts.type(x, 1, "z");
        Check.due("27: of all sessions", x.typedBy(0), 5);
        Check.due("27: SIZED is not typed", x.typedBy(1), 1);
        x.undo();
        Check.due("27: undone", x.typedBy(1), 0);
        x.detach(0);
        Check.due("27: also when it has left", x.typedBy(0), 5);
        Check.dueThrow("27: user 2", () -> x.typedBy(2));
        Check.dueThrow("27: user -1", () -> x.typedBy(-1));
    }

    public static void main(String[] arguments) {
        symbols();
        upperLines();
        fortyLines();
        sizes();
        longLinesStay();
        sessions();
        events();
        screens();
        words();
        differences();
        fullness();
        typists();
        Check.end();
    }
}

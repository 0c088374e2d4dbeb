/** Promises 20, 21, 28 and 36 to 42: control, typing, time, settings and undo. */
public final class ControlTest {
    private static final int NOT_FOUND = SharedConsole.NOT_FOUND, BAD_VALUE = SharedConsole.BAD_VALUE,
        NOT_ALLOWED = SharedConsole.NOT_ALLOWED, FULL = SharedConsole.FULL;
    private static final int WAIT = SharedConsole.WAIT, SHRINK = SharedConsole.SHRINK;

    private ControlTest() { }

    private static void reasons() {
        SharedConsole x = Setups.controlled();
        Check.due("20: it can", x.whyNot(0), 0);
        Check.due("20: watches nothing", x.whyNot(3), 1);
        Check.due("20: another one controls it", x.whyNot(1), 4);
        x.goTo(1, 0);
        Check.due("20: is stopped", x.whyNot(1), 2);
        x.replay(1, 0, 10);
        Check.due("20: replays", x.whyNot(1), 2);
        x.yield(0);
        Check.due("20: nobody controls", x.whyNot(0), 3);
        Check.due("20: also then", x.whyNot(1), 2);
        Check.dueThrow("20: user 4", () -> x.whyNot(4));
        Check.dueThrow("20: user -1", () -> x.whyNot(-1));
    }

    private static void requests() {
        SharedConsole x = Setups.controlled();
        Check.due("37: had at once", Setups.control(x, 0), "0 -1 -1");
        Check.due("28: counted", Setups.accounts(x), "1 0 0 0");
        Check.due("37: user 4", x.request(4), NOT_FOUND);
        Check.due("37: user -1", x.request(-1), NOT_FOUND);
        Check.due("37: controls already", x.request(0), NOT_ALLOWED);
        Check.due("37: watches nothing", x.request(3), NOT_ALLOWED);
        x.pass(3);
        Check.due("37: waits", x.request(1), 0);
        Check.due("37: asks", Setups.control(x, 0), "0 1 3");
        Check.due("37: somebody asks", x.request(2), NOT_ALLOWED);
        Check.due("37: itself", x.request(1), NOT_ALLOWED);
        Check.due("28: two", Setups.accounts(x), "2 0 0 0");
        x.goTo(2, 0);
        Check.due("37: stopped", x.request(2), NOT_ALLOWED);
        Check.due("28: 4", x.account(4), BAD_VALUE);
        Check.due("28: -1", x.account(-1), BAD_VALUE);
        x.attach(3, 1);
        Check.due("37: another session", x.request(3), 1);
        Check.due("37: both", Setups.control(x, 0) + ", " + Setups.control(x, 1), "0 1 3, 3 -1 -1");
    }

    private static void answers() {
        SharedConsole x = Setups.controlled();
        Check.due("38: user 4", x.answer(4, true), NOT_FOUND);
        Check.due("38: user -1", x.answer(-1, true), NOT_FOUND);
        Check.due("38: nobody asks", x.answer(0, true), NOT_ALLOWED);
        x.request(1);
        Check.due("38: who asks can't answer", x.answer(1, true), NOT_ALLOWED);
        Check.due("38: nor another one", x.answer(2, true), NOT_ALLOWED);
        Check.due("38: nor who watches nothing", x.answer(3, true), NOT_ALLOWED);
        Check.due("38: refused", x.answer(0, false), 1);
        Check.due("38: the request is gone", Setups.control(x, 0), "0 -1 -1");
        Check.due("28: refused", Setups.accounts(x), "2 0 0 1");
        x.request(2);
        Check.due("38: given", x.answer(0, true), 2);
        Check.due("38: who asked has it", Setups.control(x, 0), "2 -1 -1");
        Check.due("28: consent", Setups.accounts(x), "3 1 0 1");
        Check.due("38: goes on watching", x.user(0, 2), SharedConsole.LIVE);
        Check.due("38: no longer", x.answer(0, true), NOT_ALLOWED);
    }

    private static void yielding() {
        SharedConsole x = Setups.controlled();
        Check.due("39: user 4", x.yield(4), BAD_VALUE);
        Check.due("39: user -1", x.yield(-1), BAD_VALUE);
        Check.due("39: does not control", x.yield(1), NOT_ALLOWED);
        Check.due("39: watches nothing", x.yield(3), NOT_ALLOWED);
        x.request(1);
        Check.due("39: who asks can't", x.yield(1), NOT_ALLOWED);
        Check.due("39: who asked has it", x.yield(0), 1);
        Check.due("39: now", Setups.control(x, 0), "1 -1 -1");
        int changes = x.undoCount();
        Check.due("39: nobody", x.yield(1), NOT_FOUND);
        Check.due("39: nobody controls", Setups.control(x, 0), "-1 -1 -1");
        Check.due("39: which is a change", x.undoCount(), changes + 1);
        Check.due("28: neither is counted", Setups.accounts(x), "2 0 0 0");
        x.undo();
        Check.due("42: that is undone", Setups.control(x, 0), "1 -1 -1");
    }

    private static void losing() {
        String[] ways = {"detach", "goTo", "replay", "attach", "attach again"};
        for (int way = 0; way < ways.length; way++) {
            for (int leaves = 0; leaves < 2; leaves++) {
                SharedConsole x = Setups.controlled();
                x.request(1);
                int answer = way == 0 ? x.detach(leaves) : way == 1 ? x.goTo(leaves, 0) : way == 2 ? x.replay(leaves, 0, 10)
                    : x.attach(leaves, way == 3 ? 1 : 0);
                Check.due("29 to 33: fine", answer >= 0, true);
                String what = "29 to 33: " + ways[way] + " of " + (leaves == 0 ? "who controls" : "who asks");
                Check.due(what, Setups.control(x, 0), leaves == 0 ? "1 -1 -1" : "0 -1 -1");
                Check.due("28: is not counted", Setups.accounts(x), "2 0 0 0");
                x.undo();
                Check.due("42: comes back", Setups.control(x, 0), "0 1 0");
            }
        }
        SharedConsole x = Setups.controlled();
        x.detach(0);
        Check.due("30: nobody has it", Setups.control(x, 0), "-1 -1 -1");
        x.request(1);
        x.request(2);
        x.goLive(1);
        x.goLive(2);
        x.lookBack(1, 4);
        x.window(2, 3, 1);
        Check.due("32: these keep it", Setups.control(x, 0), "1 2 0");
        x.goTo(0, 0);
        x.attach(0, 0);
        x.detach(0);
        Check.due("30: of others", Setups.control(x, 0), "1 2 0");
    }

    private static void takeovers() {
        SharedConsole x = Setups.controlled();
        Check.due("21: nobody asks", x.grantedAt(0), NOT_FOUND);
        x.pass(5);
        x.request(1);
        Check.due("21: wait is 10", x.grantedAt(0), 15);
        Check.due("40: not yet", x.pass(9), 0);
        Check.due("40: still", Setups.control(x, 0), "0 1 5");
        Check.due("40: now", x.pass(1), 1);
        Check.due("40: taken over", Setups.control(x, 0), "1 -1 -1");
        Check.due("28: because nobody answered", Setups.accounts(x), "2 0 1 0");
        Check.due("40: goes on watching", x.user(0, 2), SharedConsole.LIVE);
        x.setSetting(WAIT, 30);
        x.request(0);
        x.pass(5);
        Check.due("21: wait is 30", x.grantedAt(0), 45);
        x.setSetting(WAIT, 3);
        Check.due("21: at least the next tick", x.grantedAt(0), 21);
        Check.due("41: not without a tick", Setups.control(x, 0), "1 0 15");
        x.setSetting(WAIT, 6);
        Check.due("21: just the next tick", x.grantedAt(0), 21);
        x.setSetting(WAIT, 7);
        Check.due("21: one later", x.grantedAt(0), 22);
        x.setSetting(WAIT, 1);
        Check.due("40: older than WAIT", x.pass(1), 1);
        Check.dueThrow("21: session 2", () -> x.grantedAt(2));
        Check.dueThrow("21: session -1", () -> x.grantedAt(-1));
    }

    private static void time() {
        SharedConsole x = Texts.loaded("session s 4 2;session t 4 2;user a 4 2;user b 4 2;user c 4 2;user d 4 2;");
        for (int user = 0; user < 4; user++) {
            x.attach(user, user / 2);
            x.request(user);
            x.pass(1);
        }
        Check.due("40: two at different ticks", x.pass(20), 2);
        Check.due("40: the first session", Setups.control(x, 0), "1 -1 -1");
        Check.due("40: the second session", Setups.control(x, 1), "3 -1 -1");
        Check.due("40: the time", x.count(3), 24);
        Check.due("40: 0 ticks", x.pass(0), BAD_VALUE);
        Check.due("40: -1 ticks", x.pass(-1), BAD_VALUE);
        Check.due("40: 501 ticks", x.pass(501), BAD_VALUE);
        Check.due("40: 500 ticks", x.pass(500), 0);
        for (int i = 0; i < 18; i++) {
            x.pass(500);
        }
        Check.due("40: not all of them", x.pass(476), FULL);
        Check.due("40: the time stays", x.count(3), 9524);
        Check.due("40: out of range is first", x.pass(501), BAD_VALUE);
        Check.due("40: to the last time", x.pass(475), 0);
        Check.due("40: the last time", x.count(3), 9999);
        Check.due("40: no more", x.pass(1), FULL);
        x.request(0);
        Check.due("21: may be later than all times", x.grantedAt(0), 10009);
    }

    private static void typing() {
        SharedConsole x = Setups.controlled();
        Check.due("36: user 4", x.type(4, 0), NOT_FOUND);
        Check.due("36: user -1", x.type(-1, 0), NOT_FOUND);
        Check.due("36: 0", x.type(3, 0), BAD_VALUE);
        Check.due("36: negative", x.type(3, -1), BAD_VALUE);
        Check.due("36: the least number", x.type(0, Integer.MIN_VALUE), BAD_VALUE);
        Check.due("36: 0 ahead", x.type(3, 1), BAD_VALUE);
        Check.due("36: 0 between", x.type(3, 1 << 25 | 1 << 15), BAD_VALUE);
        Check.due("36: bit 30", x.type(3, 1 << 30 | 1 << 25), BAD_VALUE);
        Check.due("36: bit 30 alone", x.type(3, 1 << 30), BAD_VALUE);
        Check.due("36: watches nothing", x.type(3, 1 << 25), NOT_ALLOWED);
        Check.due("36: another one controls", x.type(1, 1 << 25), NOT_ALLOWED);
        Check.due("36: nothing changed", x.undoCount() * 10 + x.session(0, 2), 40);
        Check.due("36: one", x.type(0, 31 << 25), 1);
        Check.due("36: six", x.type(0, 0x3fffffff), 7);
        Check.due("36: in order", x.type(0, Texts.keys("xy")), 9);
        Check.due("36: events", x.event(0, 7, 1) * 100 + x.event(0, 8, 1), 2425);
        Check.due("36: one change each", x.undoCount(), 7);
        x.pass(2);
        x.type(0, Texts.keys("z"));
        Check.due("36: its time", x.event(0, 9, 3), 2);
        for (int i = 0; i < 48; i++) {
            x.type(0, Texts.keys("abcdef"));
        }
        Check.due("36: 298", x.session(0, 2), 298);
        Check.due("36: three are too many", x.type(0, Texts.keys("abc")), FULL);
        Check.due("36: of others first NOT_ALLOWED", x.type(1, Texts.keys("abc")), NOT_ALLOWED);
        Check.due("36: nothing was typed", x.session(0, 2), 298);
        Check.due("36: two are not", x.type(0, Texts.keys("ab")), 300);
        Check.due("36: no more", x.type(0, Texts.keys("a")), NOT_ALLOWED);
    }

    private static void settings() {
        SharedConsole x = new SharedConsole();
        Check.due("41: before", x.setSetting(WAIT, 99), 10);
        Check.due("41: before", x.setSetting(WAIT, 1), 99);
        Check.due("41: now", x.getSetting(WAIT), 1);
        Check.due("41: 0", x.setSetting(WAIT, 0), BAD_VALUE);
        Check.due("41: 100", x.setSetting(WAIT, 100), BAD_VALUE);
        Check.due("41: shrink", x.setSetting(SHRINK, 1), 0);
        Check.due("41: shrink", x.setSetting(SHRINK, 0), 1);
        Check.due("41: shrink 2", x.setSetting(SHRINK, 2), BAD_VALUE);
        Check.due("41: shrink -1", x.setSetting(SHRINK, -1), BAD_VALUE);
        Check.due("41: setting 2", x.setSetting(2, 1), BAD_VALUE);
        Check.due("41: setting -1", x.setSetting(-1, 1), BAD_VALUE);
        Check.due("41: four changes", x.undoCount(), 4);
        Check.due("41: one that makes nothing different", x.setSetting(WAIT, 1) * 10 + x.undoCount(), 15);
    }

    private static void undoing() {
        SharedConsole x = new SharedConsole();
        for (int value = 1; value <= 20; value++) {
            x.setSetting(WAIT, value);
        }
        for (int left = 7; left >= 0; left--) {
            Check.due("42: left", x.undo(), left);
            Check.due("42: the value before", x.getSetting(WAIT), 12 + left);
        }
        Check.due("42: only eight", x.undo(), NOT_FOUND);
        Check.due("42: which changes nothing", x.getSetting(WAIT), 12);
        x.setSetting(WAIT, 40);
        Check.due("42: one again", x.undoCount(), 1);
        Check.due("42: and back", x.undo() * 100 + x.getSetting(WAIT), 12);
        SharedConsole y = Setups.controlled();
        Texts.type(y, 0, "abcdef");
        y.undo();
        Texts.type(y, 0, "xy");
        Check.due("42: typed over", Texts.screen(y, 0), "xy__|____ 0,2");
        y.undo();
        Texts.feed(y, "set wait 3;");
        y.undo();
        Check.due("42: the input stays", y.load(11), 1);
    }

    public static void main(String[] arguments) {
        reasons();
        requests();
        answers();
        yielding();
        losing();
        takeovers();
        time();
        typing();
        settings();
        undoing();
        Check.end();
    }
}

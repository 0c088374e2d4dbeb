import java.util.List;

/** Sentences about control and changes, and those of promises 20, 21, 28 and 36 to 42. */
final class ControlSentences {
    private static final int NOT_FOUND = SharedConsole.NOT_FOUND, BAD_VALUE = SharedConsole.BAD_VALUE,
        NOT_ALLOWED = SharedConsole.NOT_ALLOWED, FULL = SharedConsole.FULL;
    private static final int WAIT = SharedConsole.WAIT, SHRINK = SharedConsole.SHRINK, LIVE = SharedConsole.LIVE;
    private static final int MOST = Integer.MAX_VALUE, LEAST = Integer.MIN_VALUE;
    private static final int A = 1 << 25;
    private static final String IN_THIS_ORDER = "checked in this order.";
    private static final String NO_USER = "NOT_FOUND if user is not a valid index;";
    private static final int[] NO_USERS = {-1, 4, 6, LEAST, MOST};

    /** A call. */
    private interface Step {
        int on(SharedConsole x);
    }

    private final Doc doc;

    ControlSentences(Doc doc) {
        this.doc = doc;
    }

    void check() {
        oneOfEach();
        waiting();
        givenOrLost();
        ticks();
        changes();
        undone();
        undoneInARow();
        buffersStay();
        eightChanges();
        refused();
        refusedForFullness();
        nothingDifferent();
        whyNot();
        grantedAt();
        account();
        type();
        typeErrors();
        request();
        answer();
        giveUp();
        pass();
        setSetting();
        undo();
    }

    private static void fill(SharedConsole x, int user, int events) {
        for (int left = events - x.session(0, 2); left > 0; left -= 6) {
            Texts.type(x, user, "a".repeat(Math.min(left, 6)));
        }
    }

    private void oneOfEach() {
        doc.says("CONTROL", "At most one user controls a session, and at most one asks for control; both watch it "
            + "LIVE.");
        SharedConsole x = Setups.controlled();
        x.request(1);
        Check.due("one of each", Setups.control(x, 0), "0 1 0");
        Check.due("no second one asks", x.request(2), NOT_ALLOWED);
        Check.due("it is as before", Setups.control(x, 0), "0 1 0");
        x.goTo(2, 0);
        Check.due("nor one that is not LIVE", x.request(2) + x.request(3), 2 * NOT_ALLOWED);
        x.goTo(1, 0);
        Check.due("who stops does not ask any more", Setups.control(x, 0), "0 -1 -1");
        x.goTo(0, 0);
        Check.due("nor control", Setups.control(x, 0), "-1 -1 -1");
        x.goLive(0);
        x.goLive(1);
        Check.due("it does not come back", Setups.control(x, 0), "-1 -1 -1");
        x.attach(3, 1);
        x.request(3);
        x.request(0);
        Check.due("one of each session", Setups.control(x, 0) + ", " + Setups.control(x, 1), "0 -1 -1, 3 -1 -1");
        doc.says("CONTROL", "Who asks when nobody controls the session has control at once.");
        x.yield(0);
        Check.due("has it", x.request(1), 1);
        Check.due("and does not ask", Setups.control(x, 0), "1 -1 -1");
    }

    private void waiting() {
        doc.says("CONTROL", "Otherwise the request waits: who controls it can answer;");
        SharedConsole x = Setups.controlled();
        x.pass(4);
        Check.due("it waits", x.request(1), 0);
        Check.due("since 4", Setups.control(x, 0), "0 1 4");
        Check.due("who asks can't answer", x.answer(1, true), NOT_ALLOWED);
        Check.due("others neither", x.answer(2, true), NOT_ALLOWED);
        Check.due("who controls can", x.answer(0, true), 1);
        doc.says("CONTROL", "if it is refused, the request is gone.");
        SharedConsole y = Setups.controlled();
        y.request(1);
        y.answer(0, false);
        Check.due("gone", Setups.control(y, 0), "0 -1 -1");
        Check.due("no takeover comes", y.pass(100), 0);
        Check.due("another one can ask", y.request(2), 0);
    }

    private void givenOrLost() {
        doc.says("CONTROL", "if the control is given (consent), or given up or lost, the one who asks has it;");
        Step[] ways = {x -> x.answer(0, true), x -> x.yield(0), x -> x.detach(0), x -> x.goTo(0, 0), x -> x.replay(0, 0, 10),
            x -> x.attach(0, 1), x -> x.attach(0, 0)};
        for (int way = 0; way < ways.length; way++) {
            SharedConsole x = Setups.controlled();
            x.request(2);
            ways[way].on(x);
            Check.due("way " + way, Setups.control(x, 0), "2 -1 -1");
            Check.due("it can type, way " + way, x.type(2, A) > 0, true);
            Check.due("counted as consent, way " + way, x.account(1), way == 0 ? 1 : 0);
            SharedConsole y = Setups.controlled();
            ways[way].on(y);
            Check.due("nobody asks, way " + way, Setups.control(y, 0), way == 0 ? "0 -1 -1" : "-1 -1 -1");
        }
    }

    private void ticks() {
        doc.says("CONTROL", "When a tick passes, the time is one more then; each request, session by session, that is "
            + "WAIT ticks old or older then is granted (a takeover because nobody answered).");
        SharedConsole x = Setups.controlled();
        x.pass(7);
        x.request(1);
        Check.due("one tick", x.pass(1) * 100 + x.count(3), 8);
        Check.due("nine ticks old", x.pass(8) * 100 + x.count(3), 16);
        Check.due("still", Setups.control(x, 0), "0 1 7");
        Check.due("ten ticks old", x.pass(1) * 100 + x.count(3), 117);
        Check.due("taken over", Setups.control(x, 0) + ", " + Setups.accounts(x), "1 -1 -1, 2 0 1 0");
        x.request(0);
        x.pass(5);
        x.setSetting(WAIT, 2);
        Check.due("not without a tick", Setups.control(x, 0), "1 0 17");
        Check.due("older", x.pass(1), 1);
        Check.due("taken over again", Setups.control(x, 0), "0 -1 -1");
        x.attach(2, 1);
        x.attach(3, 1);
        x.request(2);
        x.request(3);
        x.request(1);
        Check.due("both sessions in one tick", x.pass(1) * 10 + x.pass(1), 2);
        Check.due("the first", Setups.control(x, 0), "1 -1 -1");
        Check.due("the second", Setups.control(x, 1), "3 -1 -1");
        x.setSetting(WAIT, 1);
        x.request(0);
        Check.due("the least WAIT", x.pass(1), 1);
        x.setSetting(WAIT, 99);
        x.request(1);
        Check.due("the greatest WAIT", x.pass(98) * 10 + x.pass(1), 1);
        doc.says("CONTROL", "Whoever loses control by a takeover goes on watching.");
        Check.due("LIVE", x.user(0, 2) * 10 + x.user(0, 3), LIVE * 10);
        Check.due("all four", x.watchers(0, LIVE) | x.watchers(1, LIVE), 15);
        Check.due("and can ask again", x.request(0), 0);
    }

    /** Sessions a and b; user 0 controls a, user 1 asks for that, and user 2 watches a replay of b; eight changes. */
    private static SharedConsole busy() {
        SharedConsole x = Texts.loaded("session a 4 2;session b 3 1;user a 4 2;user b 3 2;user c 4 1;set wait 3;set shrink 1;");
        x.attach(0, 0);
        x.request(0);
        x.attach(1, 0);
        x.request(1);
        x.type(0, Texts.keys("ab/"));
        x.attach(2, 1);
        x.replay(2, 0, 20);
        x.pass(1);
        return x;
    }

    /** Each method that makes changes, in all ways in which it makes something different of what is busy. */
    private static final Step[] CHANGES = {x -> x.attach(2, 0), x -> x.attach(0, 1), x -> x.attach(1, 0),
        x -> x.detach(0), x -> x.detach(1), x -> x.detach(2), x -> x.goTo(0, 1), x -> x.goTo(1, 4), x -> x.goTo(2, 0),
        x -> x.goLive(2), x -> x.replay(0, 0, 100), x -> x.replay(2, 0, 30), x -> x.replay(2, 0, 20),
        x -> x.lookBack(1, 2), x -> x.window(1, 2, 2), x -> x.window(1, 3, 1), x -> x.window(2, 5, 1),
        x -> x.window(2, 4, 2), x -> x.type(0, Texts.keys("c#d/e/")), x -> x.answer(0, true), x -> x.answer(0, false),
        x -> x.yield(0), x -> x.pass(1), x -> x.pass(2), x -> x.pass(500), x -> x.setSetting(WAIT, 1),
        x -> x.setSetting(SHRINK, 0)};

    private void changes() {
        doc.says("CHANGES", "The methods attach, detach, goTo, goLive, replay, lookBack, window, type, request, "
            + "answer, yield, pass and setSetting make changes; each call is one change.");
        Check.due("six before", busyWith(List.of(), 0, 2).undoCount(), 6);
        for (int i = 0; i < CHANGES.length; i++) {
            SharedConsole x = busyWith(List.of(), 0, 2);
            Check.due("change " + i + " is made", CHANGES[i].on(x) >= 0, true);
            Check.due("change " + i + " is one", x.undoCount(), 7);
        }
        SharedConsole x = busyWith(List.of(), 0, 2);
        Check.due("request", x.request(2) * 10 + x.undoCount(), 17);
        SharedConsole y = busyWith(List.of(), 0, 2);
        int[] others = {y.feed(0, 0, 0, 0, 0), y.errorPosition(), y.count(0), y.undoCount(), y.named(true, A),
            y.getSetting(0), y.session(0, 0), y.event(0, 0, 0), y.screen(0, 0, 0), y.at(0, 0, 0, 0),
            y.above(0, 0, 0, 0), y.user(0, 0), y.shown(0, 0, 0), y.cursorRow(0), y.watchers(0, 1), y.rightSize(0, true),
            y.narrowest(0, true), y.whyNot(0), y.grantedAt(0), y.reachedAt(0, 0), y.behind(0), y.firstShowing(0, A),
            y.firstDifference(0, 0, 0), (int) y.fullness(0, 0), y.typedBy(0), y.account(0), y.write(0), y.outputAt(0)};
        Check.due("the others make none", y.undoCount() * 100 + others.length, 628);
    }

    private void undone() {
        doc.says("CHANGES", "A change can be undone;");
        String before = Snapshot.of(busy());
        for (int i = 0; i < CHANGES.length; i++) {
            SharedConsole x = busy();
            CHANGES[i].on(x);
            Check.due("change " + i + " makes a difference", Snapshot.of(x).equals(before), false);
            SharedConsole y = busy();
            CHANGES[i].on(y);
            Check.due("change " + i + " can be undone", y.undo(), 7);
            Check.due("change " + i + " is undone", Snapshot.of(y), before);
        }
    }

    private static SharedConsole busyWith(List<Step> steps, int changes, int undos) {
        SharedConsole x = busy();
        for (int i = 0; i < changes; i++) {
            steps.get(i).on(x);
        }
        for (int i = 0; i < undos; i++) {
            x.undo();
        }
        return x;
    }

    private void undoneInARow() {
        doc.says("CHANGES", "everything but the buffers and the error position ... is then as before it.");
        List<List<Step>> rows = List.of(
            List.of(x -> x.goTo(2, 0), x -> x.attach(2, 0), x -> x.goTo(2, 2), x -> x.replay(2, 0, 20), x -> x.pass(1),
                x -> x.replay(2, 1, 30), x -> x.goTo(2, 3), x -> x.attach(2, 1)),
            List.of(x -> x.answer(0, false), x -> x.pass(1), x -> x.request(1), x -> x.answer(0, true),
                x -> x.request(0), x -> x.pass(1), x -> x.detach(0), x -> x.yield(1)),
            List.of(x -> x.window(0, 2, 2), x -> x.window(0, 2, 1), x -> x.setSetting(SHRINK, 0),
                x -> x.type(0, Texts.keys("abcdef")), x -> x.detach(1), x -> x.goLive(2), x -> x.setSetting(SHRINK, 1),
                x -> x.window(2, 3, 2)),
            List.of(x -> x.pass(3), x -> x.lookBack(2, 40), x -> x.lookBack(2, 3), x -> x.attach(2, 0),
                x -> x.request(2), x -> x.setSetting(WAIT, 9), x -> x.attach(1, 1), x -> x.request(1)));
        for (int row = 0; row < rows.size(); row++) {
            List<Step> steps = rows.get(row);
            for (int undos = 1; undos <= 8; undos++) {
                String undone = Snapshot.of(busyWith(steps, 8, undos));
                Check.due("row " + row + ", " + undos + " undone", undone, Snapshot.of(busyWith(steps, 8 - undos, 0)));
            }
            SharedConsole x = busyWith(steps, 8, 8);
            steps.get(0).on(x);
            Check.due("row " + row + ", again from the start", Snapshot.of(x), Snapshot.of(busyWith(steps, 1, 0)));
        }
    }

    private void buffersStay() {
        doc.says("CHANGES", "the buffers and the error position (which stays that of the latest load)");
        SharedConsole x = Setups.controlled();
        Texts.type(x, 0, "ab");
        Texts.load(x, "user");
        x.pass(1);
        Texts.load(x, "user a");
        x.write(0);
        Texts.feed(x, "set wait 3;");
        x.undo();
        x.undo();
        Check.due("the error position", x.errorPosition(), 6);
        Check.due("the output buffer", Texts.output(x, 3), "ab ");
        Check.due("the input buffer", x.load(11) * 10 + x.getSetting(WAIT), 13);
    }

    private void eightChanges() {
        doc.says("CHANGES", "At most the 8 latest changes are kept.");
        for (int changes : new int[] {7, 8, 9, 16, 17, 30}) {
            SharedConsole x = new SharedConsole();
            for (int i = 1; i <= changes; i++) {
                x.pass(1);
                Check.due("after " + i, x.undoCount(), Math.min(i, 8));
            }
            int kept = Math.min(changes, 8);
            for (int i = kept - 1; i >= 0; i--) {
                Check.due("can still be undone of " + changes, x.undo(), i);
            }
            Check.due("no more of " + changes, x.undo(), NOT_FOUND);
            Check.due("the time that is left of " + changes, x.count(3), changes - kept);
        }
    }

    private void refused() {
        doc.says("CHANGES", "A call that returns an error code or throws an exception changes nothing, except where "
            + "its description says otherwise.");
        Step[] calls = {x -> x.attach(-1, 0), x -> x.attach(3, 0), x -> x.attach(0, 2), x -> x.attach(0, -1),
            x -> x.detach(3), x -> x.detach(-1), x -> x.goTo(3, 0), x -> x.goTo(0, -1), x -> x.goTo(0, 5),
            x -> x.goTo(1, 5), x -> x.goLive(3), x -> x.goLive(-1), x -> x.replay(3, 0, 10), x -> x.replay(0, 0, 9),
            x -> x.replay(0, 0, 1001), x -> x.replay(0, 5, 10), x -> x.replay(2, -1, 10), x -> x.lookBack(3, 1),
            x -> x.lookBack(0, 41), x -> x.lookBack(0, -1), x -> x.window(3, 2, 1), x -> x.window(0, 1, 1),
            x -> x.window(0, 17, 1), x -> x.window(0, 2, 0), x -> x.window(0, 2, 7), x -> x.type(3, A),
            x -> x.type(1, A), x -> x.type(2, A), x -> x.type(0, 0), x -> x.type(0, -1), x -> x.type(0, 1),
            x -> x.type(0, A | 1), x -> x.type(0, A | 1 << 30), x -> x.request(3), x -> x.request(0), x -> x.request(1),
            x -> x.request(2), x -> x.answer(3, true), x -> x.answer(1, true), x -> x.answer(2, false), x -> x.yield(3),
            x -> x.yield(1), x -> x.yield(2), x -> x.pass(0), x -> x.pass(-1), x -> x.pass(501),
            x -> x.setSetting(WAIT, 0), x -> x.setSetting(WAIT, 100), x -> x.setSetting(SHRINK, 2),
            x -> x.setSetting(SHRINK, -1), x -> x.setSetting(2, 1), x -> x.setSetting(-1, 1), x -> x.load(-1),
            x -> x.load(1)};
        String before = Snapshot.of(busy());
        for (int i = 0; i < calls.length; i++) {
            SharedConsole x = busy();
            x.write(0);
            Check.due("call " + i + " is refused", calls[i].on(x) < 0, true);
            Check.due("call " + i + " is no change", x.undoCount(), 8);
            Check.due("call " + i + " leaves the output", Texts.output(x, 10), "ab  \n    \n");
            Check.due("call " + i + " leaves the rest", Snapshot.of(x), before);
        }
        SharedConsole x = busy();
        x.write(0);
        Check.dueThrow("write", () -> x.write(3));
        Check.due("which leaves the output", Texts.output(x, 10), "ab  \n    \n");
        Check.due("and the changes", x.undoCount(), 8);
        Check.due("and the rest", Snapshot.of(x), before);
    }

    private void refusedForFullness() {
        doc.says("CHANGES", "A call that returns an error code or throws an exception changes nothing");
        SharedConsole x = Setups.controlled();
        fill(x, 0, 297);
        x.undo();
        int events = x.session(0, 2);
        fill(x, 0, 296);
        Check.due("typing", Texts.type(x, 0, "aaaaa"), FULL);
        Check.due("no event came", x.session(0, 2) * 10 + x.undoCount(), 2968);
        x.undo();
        Check.due("undo takes the one before back", x.session(0, 2), events);
        SharedConsole y = Setups.controlled();
        for (int i = 0; i < 19; i++) {
            y.pass(500);
        }
        y.request(1);
        Check.due("passing", y.pass(500), FULL);
        Check.due("no tick passed", y.count(3), 9500);
        Check.due("no request was granted", Setups.control(y, 0), "0 1 9500");
        y.undo();
        Check.due("undo takes the request back", Setups.control(y, 0), "0 -1 -1");
    }

    private void nothingDifferent() {
        doc.says("CHANGES", "If a change makes nothing different, it is a change all the same.");
        Step[] calls = {x -> x.goLive(0), x -> x.lookBack(0, 0), x -> x.window(0, 4, 2), x -> x.setSetting(WAIT, 3),
            x -> x.setSetting(SHRINK, 1), x -> x.window(2, 4, 1), x -> x.replay(2, 0, 20)};
        String before = Snapshot.of(busyWith(List.of(), 0, 1));
        for (int i = 0; i < calls.length; i++) {
            SharedConsole x = busyWith(List.of(), 0, 1);
            calls[i].on(x);
            Check.due("call " + i + " is a change", x.undoCount(), 8);
            Check.due("call " + i + " makes nothing different", Snapshot.of(x), before);
            SharedConsole y = busyWith(List.of(), 0, 1);
            calls[i].on(y);
            Check.due("call " + i + " is undone", y.undo(), 7);
            Check.due("call " + i + " alone is undone", Snapshot.of(y), before);
        }
    }

    private void whyNot() {
        doc.says(20, "Returns why a user cannot type: the first of these reasons that applies. ... - `user`: index of "
            + "a user");
        SharedConsole x = Setups.controlled();
        x.goTo(1, 0);
        x.yield(0);
        Check.due("neither LIVE nor does anybody control", x.whyNot(1), 2);
        x.request(0);
        fill(x, 0, 300);
        Check.due("another one controls, and full", x.whyNot(2), 4);
        Check.due("not LIVE, and full", x.whyNot(1), 2);
        Check.due("watches nothing", x.whyNot(3), 1);
        x.yield(0);
        Check.due("nobody controls, and full", x.whyNot(0), 3);
        doc.says(20, "Returns 1: it watches nothing; 2: it does not watch LIVE; 3: nobody controls the session; 4: "
            + "another one controls it; 5: the session has 300 events; 0: it can.");
        SharedConsole y = Setups.controlled();
        Check.due("1", y.whyNot(3), 1);
        y.goTo(2, 0);
        Check.due("2, STOPPED", y.whyNot(2), 2);
        y.replay(2, 0, 10);
        Check.due("2, REPLAYING", y.whyNot(2), 2);
        Check.due("4", y.whyNot(1), 4);
        y.request(1);
        Check.due("4, who asks", y.whyNot(1), 4);
        y.attach(3, 1);
        Check.due("3, in the other session", y.whyNot(3), 3);
        Check.due("0", y.whyNot(0), 0);
        fill(y, 0, 299);
        Check.due("0 with 299 events", y.whyNot(0), 0);
        fill(y, 0, 300);
        Check.due("5", y.whyNot(0), 5);
        y.undo();
        Check.due("0 again", y.whyNot(0), 0);
        doc.says(20, "Throws `IndexOutOfBoundsException` if user is not a valid index");
        Check.dueThrow("user", user -> y.whyNot(user), NO_USERS);
    }

    private void grantedAt() {
        doc.says(21, "Returns the time at which a request will be granted if nobody answers (see CONTROL). ... - "
            + "`session`: index of a session");
        SharedConsole x = Setups.controlled();
        x.pass(5);
        x.request(1);
        Check.due("WAIT is 10", x.grantedAt(0), 15);
        Check.due("not before", x.pass(9), 0);
        Check.due("but then", x.pass(1) * 100 + x.count(3), 115);
        doc.says(21, "Returns the time: that of the request plus WAIT, but at least the next tick;");
        x.setSetting(WAIT, 99);
        x.request(0);
        Check.due("the greatest WAIT", x.grantedAt(0), 114);
        x.pass(10);
        for (int wait : new int[] {12, 11, 10, 9, 1}) {
            x.setSetting(WAIT, wait);
            Check.due("WAIT is " + wait + ", it is 25", x.grantedAt(0), Math.max(15 + wait, 26));
        }
        Check.due("with the next tick", x.pass(1), 1);
        SharedConsole y = Setups.controlled();
        for (int i = 0; i < 20; i++) {
            y.pass(i < 19 ? 500 : 499);
        }
        y.request(1);
        Check.due("may be later than all times", y.grantedAt(0), 10009);
        doc.says(21, "NOT_FOUND if nobody asks.");
        Check.due("not any more", x.grantedAt(0), NOT_FOUND);
        Check.due("had at once", Setups.controlled().grantedAt(0), NOT_FOUND);
        Check.due("another session", y.grantedAt(1), NOT_FOUND);
        doc.says(21, "Throws `IndexOutOfBoundsException` if session is not a valid index");
        Check.dueThrow("session", session -> x.grantedAt(session), -1, 2, 4, LEAST, MOST);
    }

    private void account() {
        doc.says(28, "Returns a number of the account since the load.");
        SharedConsole x = Setups.controlled();
        Check.due("a request", Setups.accounts(x), "1 0 0 0");
        Texts.load(x, "session s 4 2;user a 2 1;user b 2 1;");
        Check.due("a load", Setups.accounts(x), "0 0 0 0");
        doc.says(28, "- `what`: 0: requests, also those by which control was had at once; 1: takeovers by consent (not "
            + "control that was given up or lost); 2: takeovers because nobody answered; 3: requests that were "
            + "refused");
        SharedConsole y = Setups.controlled();
        y.request(1);
        Check.due("requests", Setups.accounts(y), "2 0 0 0");
        y.request(2);
        Check.due("one that is not allowed", Setups.accounts(y), "2 0 0 0");
        y.answer(0, true);
        Check.due("by consent", Setups.accounts(y), "2 1 0 0");
        y.request(0);
        y.yield(1);
        Check.due("given up", Setups.accounts(y), "3 1 0 0");
        y.request(1);
        y.goTo(0, 0);
        Check.due("lost", Setups.accounts(y), "4 1 0 0");
        y.request(2);
        y.answer(1, false);
        Check.due("refused", Setups.accounts(y), "5 1 0 1");
        y.request(2);
        y.detach(2);
        Check.due("a request that is lost", Setups.accounts(y), "6 1 0 1");
        y.attach(2, 0);
        y.request(2);
        y.pass(10);
        Check.due("nobody answered", Setups.accounts(y), "7 1 1 1");
        y.undo();
        Check.due("undone", Setups.accounts(y), "7 1 0 1");
        doc.says(28, "Returns the number; BAD_VALUE for any other what.");
        for (int what : new int[] {-1, 4, LEAST, MOST}) {
            Check.due("what is " + what, y.account(what), BAD_VALUE);
        }
    }

    private void type() {
        doc.says(36, "Lets a user type. ... - `symbols`: one to six symbols, as groups of 5 bits, the first one in the "
            + "highest group; unused groups at the end are 0");
        SharedConsole x = Setups.controlled();
        int symbols = 0;
        for (int used = 1; used <= 6; used++) {
            symbols |= (32 - used) << 5 * (6 - used);
            int before = x.session(0, 2);
            Check.due(used + " symbols", x.type(0, symbols), before + used);
            for (int i = 0; i < used; i++) {
                Check.due("symbol " + i + " of " + used, x.event(0, before + i, 1), 31 - i);
            }
        }
        Check.due("the greatest number", x.type(0, (1 << 30) - 1), 27);
        doc.says(36, "Returns the number of events of the session then;");
        Check.due("one more", x.type(0, A), 28);
        Check.due("as the session tells", x.session(0, 2), 28);
        doc.says(36, NO_USER);
        for (int wrong : NO_USERS) {
            Check.due("user " + wrong, x.type(wrong, A), NOT_FOUND);
            Check.due("first of all, user " + wrong, x.type(wrong, 0), NOT_FOUND);
        }
    }

    private void typeErrors() {
        doc.says(36, "BAD_VALUE if symbols is 0 or negative, or a group that is 0 stands ahead of one that is not, or "
            + "bit 30 is set;");
        SharedConsole x = Setups.controlled();
        int[] wrong = {0, -1, LEAST, LEAST | A, MOST, 1 << 30, 1 << 30 | A, 1, 31, 1 << 5, 1 << 20, 31 << 20, A | 1,
            A | 1 << 15, A | 1 << 20 | 1 << 10, A | 1 << 20 | 1 << 15 | 1 << 10 | 1};
        for (int symbols : wrong) {
            Check.due("symbols " + Integer.toHexString(symbols), x.type(0, symbols), BAD_VALUE);
            Check.due("of who can't type, " + Integer.toHexString(symbols), x.type(3, symbols), BAD_VALUE);
        }
        doc.says(36, "NOT_ALLOWED if it cannot type (see whyNot);");
        x.goTo(2, 0);
        Check.due("watches nothing", x.type(3, A), NOT_ALLOWED);
        Check.due("not LIVE", x.type(2, A), NOT_ALLOWED);
        Check.due("another one controls", x.type(1, A), NOT_ALLOWED);
        x.yield(0);
        Check.due("nobody controls", x.type(0, A), NOT_ALLOWED);
        x.request(0);
        fill(x, 0, 300);
        Check.due("300 events", x.type(0, A), NOT_ALLOWED);
        doc.says(36, "FULL if the session would have more than 300 events; " + IN_THIS_ORDER);
        for (int left = 1; left <= 5; left++) {
            SharedConsole y = Setups.controlled();
            fill(y, 0, 300 - left);
            Check.due("one too many for " + left, Texts.type(y, 0, "aaaaaa".substring(0, left + 1)), FULL);
            Check.due("of another one, " + left, Texts.type(y, 1, "aaaaaa".substring(0, left + 1)), NOT_ALLOWED);
            Check.due("just as many as " + left, Texts.type(y, 0, "aaaaaa".substring(0, left)), 300);
        }
    }

    private void request() {
        doc.says(37, "Lets a user ask for control (see CONTROL). ... Returns 1 if it has control then, 0 if it must "
            + "wait;");
        SharedConsole x = Setups.controlled();
        Check.due("must wait", x.request(1), 0);
        Check.due("asks", Setups.control(x, 0), "0 1 0");
        x.attach(3, 1);
        Check.due("has control", x.request(3), 1);
        Check.due("of its session", Setups.control(x, 1), "3 -1 -1");
        doc.says(37, NO_USER);
        for (int wrong : NO_USERS) {
            Check.due("user " + wrong, x.request(wrong), NOT_FOUND);
        }
        doc.says(37, "NOT_ALLOWED if it does not watch LIVE, controls the session already, or somebody asks already; "
            + IN_THIS_ORDER);
        Check.due("somebody asks", x.request(2), NOT_ALLOWED);
        Check.due("itself asks", x.request(1), NOT_ALLOWED);
        Check.due("controls while somebody asks", x.request(0), NOT_ALLOWED);
        Check.due("controls", x.request(3), NOT_ALLOWED);
        x.yield(0);
        x.yield(1);
        x.goTo(0, 0);
        Check.due("STOPPED, though nobody controls", x.request(0), NOT_ALLOWED);
        x.replay(0, 0, 10);
        Check.due("REPLAYING, though nobody controls", x.request(0), NOT_ALLOWED);
        x.detach(0);
        Check.due("watches nothing", x.request(0), NOT_ALLOWED);
        Check.due("nothing came of it", Setups.control(x, 0), "-1 -1 -1");
    }

    private void answer() {
        doc.says(38, "Lets the user who controls a session answer (see CONTROL). ... - `grants`: true if the control "
            + "is given");
        SharedConsole x = Setups.controlled();
        x.request(2);
        int refusedOne = x.answer(0, false);
        Check.due("refused", Setups.control(x, 0), "0 -1 -1");
        x.request(1);
        int grantedOne = x.answer(0, true);
        Check.due("given", Setups.control(x, 0), "1 -1 -1");
        doc.says(38, "Returns the user who asked;");
        Check.due("who was refused", refusedOne, 2);
        Check.due("who has it", grantedOne, 1);
        doc.says(38, NO_USER);
        for (int wrong : NO_USERS) {
            Check.due("user " + wrong, x.answer(wrong, true), NOT_FOUND);
        }
        doc.says(38, "NOT_ALLOWED if it does not control a session or nobody asks for that; " + IN_THIS_ORDER);
        for (boolean grants : new boolean[] {false, true}) {
            Check.due("nobody asks", x.answer(1, grants), NOT_ALLOWED);
            x.request(0);
            Check.due("asks itself", x.answer(0, grants), NOT_ALLOWED);
            Check.due("only watches", x.answer(2, grants), NOT_ALLOWED);
            Check.due("watches nothing", x.answer(3, grants), NOT_ALLOWED);
            Check.due("the request stays", Setups.control(x, 0), "1 0 0");
            x.answer(1, false);
        }
        x.attach(3, 1);
        x.request(3);
        x.request(2);
        Check.due("somebody asks for another session", x.answer(3, true), NOT_ALLOWED);
    }

    private void giveUp() {
        doc.says(39, "Lets a user give up control (see CONTROL). ... Returns the user who controls the session then, "
            + "or NOT_FOUND if nobody does;");
        SharedConsole x = Setups.controlled();
        x.request(2);
        Check.due("who asked", x.yield(0), 2);
        Check.due("has it", Setups.control(x, 0), "2 -1 -1");
        x.yield(2);
        x.request(1);
        x.request(0);
        Check.due("user 0", x.yield(1), 0);
        int changes = x.undoCount();
        Check.due("nobody", x.yield(0), NOT_FOUND);
        Check.due("has it then", Setups.control(x, 0), "-1 -1 -1");
        Check.due("which is a change", x.undoCount(), Math.min(changes + 1, 8));
        x.undo();
        Check.due("that can be undone", Setups.control(x, 0), "0 -1 -1");
        doc.says(39, "BAD_VALUE if user is not a valid index;");
        for (int wrong : NO_USERS) {
            Check.due("user " + wrong, x.yield(wrong), BAD_VALUE);
        }
        doc.says(39, "NOT_ALLOWED if it does not control a session; " + IN_THIS_ORDER);
        x.request(1);
        Check.due("only asks", x.yield(1), NOT_ALLOWED);
        Check.due("only watches", x.yield(2), NOT_ALLOWED);
        Check.due("watches nothing", x.yield(3), NOT_ALLOWED);
        x.detach(0);
        Check.due("not any more", x.yield(0), NOT_ALLOWED);
    }

    private void pass() {
        doc.says(40, "Lets time pass, tick by tick. ... - `ticks`: 1 to 500");
        SharedConsole x = Setups.controlled();
        Check.due("1", x.pass(1) + x.count(3), 1);
        Check.due("500", x.pass(500) + x.count(3), 501);
        doc.says(40, "Returns the number of requests that are granted in these ticks;");
        x.attach(2, 1);
        x.attach(3, 1);
        x.request(2);
        x.request(1);
        x.pass(5);
        x.request(3);
        Check.due("one of each session, at different ticks", x.pass(500), 2);
        Check.due("none", x.pass(500), 0);
        doc.says(40, "BAD_VALUE if ticks is out of range;");
        for (int ticks : new int[] {0, -1, 501, LEAST, MOST}) {
            Check.due("ticks " + ticks, x.pass(ticks), BAD_VALUE);
        }
        doc.says(40, "FULL if the time would be more than 9999; " + IN_THIS_ORDER);
        for (int i = 0; i < 16; i++) {
            x.pass(500);
        }
        Check.due("now", x.count(3), 9506);
        Check.due("10000", x.pass(494), FULL);
        Check.due("9999", x.pass(493) + x.count(3), 9999);
        Check.due("one more", x.pass(1), FULL);
        Check.due("500 more", x.pass(500), FULL);
        for (int ticks : new int[] {0, -1, 501, LEAST, MOST}) {
            Check.due("first BAD_VALUE, ticks " + ticks, x.pass(ticks), BAD_VALUE);
        }
    }

    private void setSetting() {
        doc.says(41, "Sets a setting. ... - `value`: the new value, in the range of the setting");
        SharedConsole x = new SharedConsole();
        for (int value : new int[] {1, 99, 50}) {
            x.setSetting(WAIT, value);
            Check.due("WAIT", x.getSetting(WAIT), value);
        }
        for (int value : new int[] {1, 0}) {
            x.setSetting(SHRINK, value);
            Check.due("SHRINK", x.getSetting(SHRINK), value);
        }
        doc.says(41, "Returns the previous value;");
        Check.due("WAIT was 50", x.setSetting(WAIT, 7), 50);
        Check.due("WAIT was 7", x.setSetting(WAIT, 7), 7);
        Check.due("SHRINK was 0", x.setSetting(SHRINK, 1), 0);
        Check.due("SHRINK was 1", x.setSetting(SHRINK, 1), 1);
        doc.says(41, "BAD_VALUE if setting is neither or value is out of its range.");
        for (int setting : new int[] {-1, 2, LEAST, MOST}) {
            Check.due("setting " + setting, x.setSetting(setting, 1), BAD_VALUE);
        }
        for (int value : new int[] {0, 100, -7, LEAST, MOST}) {
            Check.due("WAIT " + value, x.setSetting(WAIT, value), BAD_VALUE);
        }
        for (int value : new int[] {-1, 2, LEAST, MOST}) {
            Check.due("SHRINK " + value, x.setSetting(SHRINK, value), BAD_VALUE);
        }
        Check.due("both stay", x.getSetting(WAIT) * 10 + x.getSetting(SHRINK), 71);
    }

    private void undo() {
        doc.says(42, "Undoes the latest change that is kept.");
        SharedConsole x = new SharedConsole();
        x.setSetting(WAIT, 20);
        x.setSetting(WAIT, 30);
        x.undo();
        Check.due("the latest", x.getSetting(WAIT), 20);
        x.setSetting(WAIT, 40);
        x.undo();
        Check.due("a later one", x.getSetting(WAIT), 20);
        x.undo();
        Check.due("the first", x.getSetting(WAIT), 10);
        doc.says(42, "Returns the number of changes that can still be undone; NOT_FOUND if there is none to undo.");
        Check.due("none", x.undo(), NOT_FOUND);
        Check.due("again", x.undo() * 100 + x.undoCount(), -100);
        x.pass(1);
        x.pass(1);
        Check.due("one is left", x.undo(), 1);
        Check.due("none is left", x.undo(), 0);
        Check.due("of a new object", new SharedConsole().undo(), NOT_FOUND);
    }
}

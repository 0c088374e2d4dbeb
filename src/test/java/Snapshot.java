/**
 * All that can be asked of an object, as a text, but for the buffers, the error position and the number of
 * changes that can be undone. An object stands 512 calls, so it is asked only once, and little must be in it.
 */
final class Snapshot {
    private static final int MOST_QUESTIONS = 440;

    private final SharedConsole x;
    private final StringBuilder text = new StringBuilder();
    private int questions = 0;

    private Snapshot(SharedConsole x) {
        this.x = x;
    }

    static String of(SharedConsole x) {
        Snapshot snapshot = new Snapshot(x);
        snapshot.whole();
        for (int session = 0; session < x.count(0); session++) {
            snapshot.session(session);
        }
        for (int user = 0; user < x.count(1); user++) {
            snapshot.user(user);
        }
        if (snapshot.questions > MOST_QUESTIONS) {
            throw new AssertionError("too many questions for one object: " + snapshot.questions);
        }
        return snapshot.text.toString();
    }

    private void tell(int... answers) {
        for (int answer : answers) {
            text.append(' ').append(answer);
        }
        questions += answers.length;
    }

    private void whole() {
        for (int what = 0; what < 4; what++) {
            tell(x.count(what), x.account(what));
        }
        tell(x.getSetting(SharedConsole.WAIT), x.getSetting(SharedConsole.SHRINK));
        for (char name = 'a'; name <= 'e'; name++) {
            tell(x.named(false, Texts.keys("" + name)), x.named(true, Texts.keys("" + name)));
        }
    }

    private void session(int session) {
        text.append("\nsession");
        for (int what = 0; what < 6; what++) {
            tell(x.session(session, what));
        }
        int events = x.session(session, 2);
        for (int event = 0; event < events; event++) {
            tell(x.event(session, event, 0), x.event(session, event, 1), x.event(session, event, 2), x.event(session, event, 3));
        }
        for (int way = SharedConsole.LIVE; way <= SharedConsole.REPLAYING; way++) {
            tell(x.watchers(session, way));
        }
        tell(x.rightSize(session, false), x.rightSize(session, true), x.narrowest(session, false), x.narrowest(session, true));
        tell(x.grantedAt(session));
        screen(session, events);
    }

    private void screen(int session, int events) {
        int width = x.screen(session, events, 0);
        int height = x.screen(session, events, 1);
        int up = x.screen(session, events, 4);
        tell(width, height, up, x.screen(session, events, 2), x.screen(session, events, 3));
        for (int place = 0; place < width * height; place++) {
            tell(x.at(session, events, place / width, place % width));
        }
        for (int line = 0; line < up; line++) {
            tell(x.above(session, events, line, 0), x.above(session, events, line, 1));
        }
    }

    private void user(int user) {
        text.append("\nuser");
        for (int what = 0; what < 7; what++) {
            tell(x.user(user, what));
        }
        tell(x.whyNot(user), x.behind(user), x.typedBy(user), x.cursorRow(user));
        int session = x.user(user, 3);
        int events = session < 0 ? 0 : x.session(session, 2);
        for (int position = 0; position <= events; position++) {
            tell(x.reachedAt(user, position));
        }
    }
}

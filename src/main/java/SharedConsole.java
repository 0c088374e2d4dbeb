/** Consoles that are shared: see README.md for how to use them. */
public final class SharedConsole {
    public static final int SPACE = 27, NEWLINE = 28, RETURN = 29, BACK = 30, CLEAR = 31;
    public static final int TYPED = 0, SIZED = 1;
    public static final int NOTHING = 0, LIVE = 1, STOPPED = 2, REPLAYING = 3;
    public static final int WAIT = 0, SHRINK = 1;
    public static final int NOT_FOUND = -1;
    public static final int BAD_VALUE = -2;
    public static final int FULL = -3;
    public static final int NOT_ALLOWED = -4;
    public static final int SYNTAX_ERROR = -11, RANGE_ERROR = -12, DUPLICATE_ERROR = -14, COUNT_ERROR = -15;

    private static final int MOST_SESSIONS = 4, MOST_USERS = 6, MOST_EVENTS = 300;
    private static final int LEAST_WIDTH = 2, MOST_WIDTH = 16, LEAST_HEIGHT = 1, MOST_HEIGHT = 6;
    private static final int MOST_LINES_UP = 40, MOST_LINES_BACK = 40;
    private static final int MOST_TIME = 9999, MOST_TICKS = 500;
    private static final int LEAST_SPEED = 10, MOST_SPEED = 1000;
    private static final int MOST_CHANGES = 8;
    private static final int MOST_BYTES = 600, BYTES_OF_A_FEED = 20;
    private static final int MOST_OUTPUT = MOST_HEIGHT * (MOST_WIDTH + 1);
    private static final int LAST_LETTER = 26;
    private static final int GROUPS = 6;
    private static final int NOBODY = NOT_FOUND;

    private static final int SETTINGS = 2;
    private static final int[] INITIAL_SETTING = {10, 0};
    private static final int[] LEAST_SETTING = {1, 0};
    private static final int[] MOST_SETTING = {99, 1};

    private static final int ACCOUNTS = 4;
    private static final int REQUESTS = 0, CONSENTS = 1, UNANSWERED = 2, REFUSALS = 3;

    private final Text text = new Text();
    private final Draft draft = new Draft();
    private int errorAt = NOT_FOUND;
    private final int[] output = new int[MOST_OUTPUT];
    private int outputLength = 0;

    private final Things sessions = new Things(MOST_SESSIONS);
    private final Things users = new Things(MOST_USERS);
    private final Recording[] recordings = new Recording[MOST_SESSIONS];
    private final State now = new State();
    private final History history = new History();

    private final Screen screen = new Screen();
    private final Screen otherScreen = new Screen();

    public SharedConsole() {
        for (int i = 0; i < recordings.length; i++) {
            recordings[i] = new Recording();
        }
    }

    public int feed(int a, int b, int c, int d, int e) {
        if (text.filled + BYTES_OF_A_FEED > MOST_BYTES) {
            return FULL;
        }
        text.append(a);
        text.append(b);
        text.append(c);
        text.append(d);
        text.append(e);
        return text.filled;
    }

    public int load(int length) {
        if (length < 0 || length > text.filled) {
            return BAD_VALUE;
        }
        text.open(length);
        int statements = draft.read(text);
        text.filled = 0;
        if (statements < 0) {
            errorAt = text.start;
            return statements;
        }
        errorAt = NOT_FOUND;
        sessions.copyFrom(draft.sessions);
        users.copyFrom(draft.users);
        now.restart(users, draft.settings);
        history.forget();
        return statements;
    }

    public int errorPosition() {
        return errorAt;
    }

    public int count(int what) {
        switch (what) {
            case 0:
                return sessions.count;
            case 1:
                return users.count;
            case 2:
                return usersWhoWatch();
            case 3:
                return now.time;
            default:
                return BAD_VALUE;
        }
    }

    public int undoCount() {
        return history.count;
    }

    public int named(boolean user, int letters) {
        return user ? users.indexOf(letters) : sessions.indexOf(letters);
    }

    public int getSetting(int setting) {
        if (setting < 0 || setting >= SETTINGS) {
            return BAD_VALUE;
        }
        return now.settings[setting];
    }

    public int session(int session, int what) throws IndexOutOfBoundsException {
        Desk desk = deskOf(session);
        switch (what) {
            case 0:
                return sessions.sizeOf(session, false);
            case 1:
                return sessions.sizeOf(session, true);
            case 2:
                return desk.events;
            case 3:
                return desk.holder;
            case 4:
                return desk.asker;
            case 5:
                return desk.asker == NOBODY ? NOT_FOUND : desk.askedAt;
            default:
                return BAD_VALUE;
        }
    }

    public int event(int session, int event, int what) throws IndexOutOfBoundsException {
        Desk desk = deskOf(session);
        if (event < 0 || event >= desk.events) {
            return NOT_FOUND;
        }
        Recording recording = recordingOf(session);
        switch (what) {
            case 0:
                return recording.number(Recording.SORT, event);
            case 1:
                return recording.number(Recording.VALUE, event);
            case 2:
                return recording.number(Recording.HEIGHT, event);
            case 3:
                return recording.number(Recording.TIME, event);
            default:
                return BAD_VALUE;
        }
    }

    public int screen(int session, int position, int what) throws IndexOutOfBoundsException {
        draw(screen, session, position);
        switch (what) {
            case 0:
                return screen.width;
            case 1:
                return screen.height;
            case 2:
                return screen.row;
            case 3:
                return screen.column;
            case 4:
                return screen.up;
            default:
                return BAD_VALUE;
        }
    }

    public int at(int session, int position, int row, int column) throws IndexOutOfBoundsException {
        draw(screen, session, position);
        if (row < 0 || row >= screen.height || column < 0 || column >= screen.width) {
            return NOT_FOUND;
        }
        return screen.symbolOnScreen(row, column);
    }

    public int above(int session, int position, int line, int column) throws IndexOutOfBoundsException {
        draw(screen, session, position);
        if (line < 0 || line >= screen.up || column < 0 || column >= MOST_WIDTH) {
            return NOT_FOUND;
        }
        return screen.symbolInLine(line, column);
    }

    public int user(int user, int what) throws IndexOutOfBoundsException {
        Seat seat = seatOf(user);
        switch (what) {
            case 0:
                return seat.width;
            case 1:
                return seat.height;
            case 2:
                return seat.way;
            case 3:
                return seat.way == NOTHING ? NOT_FOUND : seat.session;
            case 4:
                return seat.way == NOTHING ? NOT_FOUND : positionOf(seat);
            case 5:
                return seat.linesBack;
            case 6:
                return seat.way == REPLAYING ? seat.speed : 0;
            default:
                return BAD_VALUE;
        }
    }

    public int shown(int user, int row, int column) throws IndexOutOfBoundsException {
        Seat seat = seatOf(user);
        if (seat.way == NOTHING || row < 0 || row >= seat.height || column < 0 || column >= seat.width) {
            return NOT_FOUND;
        }
        draw(screen, seat.session, positionOf(seat));
        return screen.symbolInLine(uppermostLine(seat) + row, column);
    }

    public int cursorRow(int user) throws IndexOutOfBoundsException {
        Seat seat = seatOf(user);
        if (seat.way == NOTHING) {
            return NOT_FOUND;
        }
        draw(screen, seat.session, positionOf(seat));
        int row = screen.cursorLine() - uppermostLine(seat);
        return row < seat.height ? row : NOT_FOUND;
    }

    public int watchers(int session, int way) throws IndexOutOfBoundsException {
        deskOf(session);
        if (way != LIVE && way != STOPPED && way != REPLAYING) {
            return 0;
        }
        int bits = 0;
        for (int user = 0; user < users.count; user++) {
            if (seatOf(user).watches(session, way)) {
                bits |= 1 << user;
            }
        }
        return bits;
    }

    public int rightSize(int session, boolean height) throws IndexOutOfBoundsException {
        deskOf(session);
        return sizeThatIsRight(session, height);
    }

    public int narrowest(int session, boolean height) throws IndexOutOfBoundsException {
        deskOf(session);
        return userWithLeastWindow(session, height);
    }

    public int whyNot(int user) throws IndexOutOfBoundsException {
        return reasonNotToType(user, seatOf(user));
    }

    public int grantedAt(int session) throws IndexOutOfBoundsException {
        Desk desk = deskOf(session);
        if (desk.asker == NOBODY) {
            return NOT_FOUND;
        }
        return Math.max(desk.askedAt + now.settings[WAIT], now.time + 1);
    }

    public int reachedAt(int user, int position) throws IndexOutOfBoundsException {
        Seat seat = seatOf(user);
        if (seat.way != REPLAYING || position < seat.position || position > deskOf(seat.session).events) {
            return NOT_FOUND;
        }
        if (position == seat.position || seat.speed <= 0) {
            return seat.startedAt;
        }
        // Times never fall, so the last event ahead of the position is the one that is waited for.
        int passed = recordingOf(seat.session).timeBetween(seat.position, position - 1) * 100;
        return seat.startedAt + (passed + seat.speed - 1) / seat.speed;
    }

    public int behind(int user) throws IndexOutOfBoundsException {
        Seat seat = seatOf(user);
        if (seat.way == NOTHING) {
            return 0;
        }
        return deskOf(seat.session).events - positionOf(seat);
    }

    public int firstShowing(int session, int letters) throws IndexOutOfBoundsException {
        Desk desk = deskOf(session);
        if (groupsIn(letters, LAST_LETTER) == 0) {
            return NOT_FOUND;
        }
        draw(screen, session, 0);
        Recording recording = recordingOf(session);
        for (int event = 0; event < desk.events; event++) {
            screen.play(recording, event);
            if (screen.showsWord(letters)) {
                return event + 1;
            }
        }
        return NOT_FOUND;
    }

    public int firstDifference(int session, int a, int b) throws IndexOutOfBoundsException {
        draw(screen, session, a);
        draw(otherScreen, session, b);
        int rows = Math.min(screen.height, otherScreen.height);
        int columns = Math.min(screen.width, otherScreen.width);
        for (int row = 0; row < rows; row++) {
            for (int column = 0; column < columns; column++) {
                if (screen.symbolOnScreen(row, column) != otherScreen.symbolOnScreen(row, column)) {
                    return 16 * row + column;
                }
            }
        }
        return NOT_FOUND;
    }

    public float fullness(int session, int position) throws IndexOutOfBoundsException {
        draw(screen, session, position);
        int places = screen.height * screen.width;
        if (places <= 0) {
            return 0;
        }
        return (float) screen.fullPlaces() / (float) places;
    }

    public int typedBy(int user) throws IndexOutOfBoundsException {
        seatOf(user);
        int events = 0;
        for (int session = 0; session < sessions.count; session++) {
            events += recordingOf(session).eventsTypedBy(user, deskOf(session).events);
        }
        return events;
    }

    public int account(int what) {
        if (what < 0 || what >= ACCOUNTS) {
            return BAD_VALUE;
        }
        return now.accounts[what];
    }

    public int attach(int user, int session) {
        if (!users.has(user) || !sessions.has(session)) {
            return NOT_FOUND;
        }
        history.keep(now);
        Seat seat = seatOf(user);
        loseControl(user, seat);
        seat.way = LIVE;
        seat.session = session;
        seat.linesBack = 0;
        recordRightSizes();
        return usersWhoWatchSession(session);
    }

    public int detach(int user) {
        int error = whyNotAWatcher(user);
        if (error != 0) {
            return error;
        }
        Seat seat = seatOf(user);
        history.keep(now);
        loseControl(user, seat);
        seat.way = NOTHING;
        recordRightSizes();
        return usersWhoWatchSession(seat.session);
    }

    public int goTo(int user, int position) {
        int error = whyNotAWatcher(user);
        if (error != 0) {
            return error;
        }
        Seat seat = seatOf(user);
        if (position < 0 || position > deskOf(seat.session).events) {
            return BAD_VALUE;
        }
        history.keep(now);
        int previous = positionOf(seat);
        loseControl(user, seat);
        seat.way = STOPPED;
        seat.position = position;
        recordRightSizes();
        return previous;
    }

    public int goLive(int user) {
        int error = whyNotAWatcher(user);
        if (error != 0) {
            return error;
        }
        Seat seat = seatOf(user);
        history.keep(now);
        int previous = positionOf(seat);
        seat.way = LIVE;
        recordRightSizes();
        return previous;
    }

    public int replay(int user, int from, int speed) {
        int error = whyNotAWatcher(user);
        if (error != 0) {
            return error;
        }
        Seat seat = seatOf(user);
        if (speed < LEAST_SPEED || speed > MOST_SPEED || from < 0 || from > deskOf(seat.session).events) {
            return BAD_VALUE;
        }
        history.keep(now);
        loseControl(user, seat);
        seat.way = REPLAYING;
        seat.position = from;
        seat.speed = speed;
        seat.startedAt = now.time;
        recordRightSizes();
        return positionOf(seat);
    }

    public int lookBack(int user, int lines) {
        int error = whyNotAWatcher(user);
        if (error != 0) {
            return error;
        }
        Seat seat = seatOf(user);
        if (lines < 0 || lines > MOST_LINES_BACK) {
            return BAD_VALUE;
        }
        history.keep(now);
        int previous = seat.linesBack;
        seat.linesBack = lines;
        recordRightSizes();
        return previous;
    }

    public int window(int user, int width, int height) {
        if (!users.has(user)) {
            return NOT_FOUND;
        }
        if (width < LEAST_WIDTH || width > MOST_WIDTH || height < LEAST_HEIGHT || height > MOST_HEIGHT) {
            return BAD_VALUE;
        }
        history.keep(now);
        Seat seat = seatOf(user);
        int previous = seat.width;
        seat.width = width;
        seat.height = height;
        recordRightSizes();
        return previous;
    }

    public int type(int user, int symbols) {
        if (!users.has(user)) {
            return NOT_FOUND;
        }
        int typed = groupsIn(symbols, CLEAR);
        if (typed == 0) {
            return BAD_VALUE;
        }
        Seat seat = seatOf(user);
        if (reasonNotToType(user, seat) != 0) {
            return NOT_ALLOWED;
        }
        Desk desk = deskOf(seat.session);
        if (desk.events + typed > MOST_EVENTS) {
            return FULL;
        }
        history.keep(now);
        Recording recording = recordingOf(seat.session);
        for (int i = 0; i < typed; i++) {
            recording.putTyped(desk.events, groupAt(symbols, i), now.time, user);
            desk.events++;
        }
        recordRightSizes();
        return desk.events;
    }

    public int request(int user) {
        if (!users.has(user)) {
            return NOT_FOUND;
        }
        Seat seat = seatOf(user);
        if (seat.way != LIVE) {
            return NOT_ALLOWED;
        }
        Desk desk = deskOf(seat.session);
        if (desk.holder == user || desk.asker != NOBODY) {
            return NOT_ALLOWED;
        }
        history.keep(now);
        now.accounts[REQUESTS]++;
        desk.asker = user;
        desk.askedAt = now.time;
        if (desk.holder == NOBODY) {
            desk.handOver();
        }
        recordRightSizes();
        return desk.holder == user ? 1 : 0;
    }

    public int answer(int user, boolean grants) {
        if (!users.has(user)) {
            return NOT_FOUND;
        }
        Seat seat = seatOf(user);
        if (!controlsItsSession(user, seat)) {
            return NOT_ALLOWED;
        }
        Desk desk = deskOf(seat.session);
        if (desk.asker == NOBODY) {
            return NOT_ALLOWED;
        }
        history.keep(now);
        int asker = desk.asker;
        if (grants) {
            now.accounts[CONSENTS]++;
            desk.handOver();
        } else {
            now.accounts[REFUSALS]++;
            desk.asker = NOBODY;
        }
        recordRightSizes();
        return asker;
    }

    public int yield(int user) {
        if (!users.has(user)) {
            return BAD_VALUE;
        }
        Seat seat = seatOf(user);
        if (!controlsItsSession(user, seat)) {
            return NOT_ALLOWED;
        }
        history.keep(now);
        Desk desk = deskOf(seat.session);
        desk.handOver();
        recordRightSizes();
        return desk.holder;
    }

    public int pass(int ticks) {
        if (ticks < 1 || ticks > MOST_TICKS) {
            return BAD_VALUE;
        }
        if (now.time + ticks > MOST_TIME) {
            return FULL;
        }
        history.keep(now);
        int granted = 0;
        for (int tick = 0; tick < ticks; tick++) {
            now.time++;
            granted += grantOldRequests();
        }
        recordRightSizes();
        return granted;
    }

    public int setSetting(int setting, int value) {
        if (setting < 0 || setting >= SETTINGS
                || value < LEAST_SETTING[setting] || value > MOST_SETTING[setting]) {
            return BAD_VALUE;
        }
        history.keep(now);
        int previous = now.settings[setting];
        now.settings[setting] = value;
        recordRightSizes();
        return previous;
    }

    public int undo() {
        if (history.count == 0) {
            return NOT_FOUND;
        }
        history.takeBack(now);
        return history.count;
    }

    public int write(int user) throws IndexOutOfBoundsException {
        Seat seat = seatOf(user);
        outputLength = 0;
        if (seat.way == NOTHING) {
            return 0;
        }
        draw(screen, seat.session, positionOf(seat));
        int top = uppermostLine(seat);
        for (int row = 0; row < seat.height; row++) {
            for (int column = 0; column < seat.width; column++) {
                putOut(characterFor(screen.symbolInLine(top + row, column)));
            }
            putOut('\n');
        }
        return outputLength;
    }

    public int outputAt(int index) {
        if (index < 0 || index >= outputLength || index >= output.length) {
            return NOT_FOUND;
        }
        return output[index];
    }

    private Desk deskOf(int session) throws IndexOutOfBoundsException {
        if (!sessions.has(session) || session >= now.desks.length) {
            throw new IndexOutOfBoundsException();
        }
        return now.desks[session];
    }

    private Recording recordingOf(int session) throws IndexOutOfBoundsException {
        if (!sessions.has(session) || session >= recordings.length) {
            throw new IndexOutOfBoundsException();
        }
        return recordings[session];
    }

    private Seat seatOf(int user) throws IndexOutOfBoundsException {
        if (!users.has(user) || user >= now.seats.length) {
            throw new IndexOutOfBoundsException();
        }
        return now.seats[user];
    }

    private int whyNotAWatcher(int user) {
        if (!users.has(user)) {
            return NOT_FOUND;
        }
        return seatOf(user).way == NOTHING ? NOT_ALLOWED : 0;
    }

    private int usersWhoWatch() {
        int watching = 0;
        for (int user = 0; user < users.count; user++) {
            if (seatOf(user).way != NOTHING) {
                watching++;
            }
        }
        return watching;
    }

    private int usersWhoWatchSession(int session) {
        int watching = 0;
        for (int user = 0; user < users.count; user++) {
            Seat seat = seatOf(user);
            if (seat.way != NOTHING && seat.session == session) {
                watching++;
            }
        }
        return watching;
    }

    private void draw(Screen target, int session, int position) throws IndexOutOfBoundsException {
        if (position < 0 || position > deskOf(session).events) {
            throw new IndexOutOfBoundsException();
        }
        Recording recording = recordingOf(session);
        target.restart(sessions.sizeOf(session, false), sessions.sizeOf(session, true));
        for (int event = 0; event < position; event++) {
            target.play(recording, event);
        }
    }

    private int positionOf(Seat seat) {
        int events = deskOf(seat.session).events;
        if (seat.way == LIVE) {
            return events;
        }
        if (seat.way == STOPPED) {
            return seat.position;
        }
        Recording recording = recordingOf(seat.session);
        int played = (now.time - seat.startedAt) * seat.speed;
        int position = seat.position;
        while (position < events && recording.timeBetween(seat.position, position) * 100 <= played) {
            position++;
        }
        return position;
    }

    private int uppermostLine(Seat seat) {
        return Math.max(screen.cursorLine() - seat.linesBack - seat.height + 1, 0);
    }

    private int userWithLeastWindow(int session, boolean height) {
        int least = sessions.sizeOf(session, height);
        int found = NOT_FOUND;
        for (int user = 0; user < users.count; user++) {
            Seat seat = seatOf(user);
            if (seat.watches(session, LIVE) && seat.windowSize(height) < least) {
                least = seat.windowSize(height);
                found = user;
            }
        }
        return found;
    }

    private int sizeThatIsRight(int session, boolean height) {
        int user = now.settings[SHRINK] == 0 ? NOT_FOUND : userWithLeastWindow(session, height);
        return user == NOT_FOUND ? sessions.sizeOf(session, height) : seatOf(user).windowSize(height);
    }

    private void recordRightSizes() {
        for (int session = 0; session < sessions.count; session++) {
            Desk desk = deskOf(session);
            int width = sizeThatIsRight(session, false);
            int height = sizeThatIsRight(session, true);
            boolean right = lastSize(session, false) == width && lastSize(session, true) == height;
            if (!right && desk.events < MOST_EVENTS) {
                recordingOf(session).putSized(desk.events, width, height, now.time);
                desk.events++;
            }
        }
    }

    private int lastSize(int session, boolean height) {
        Recording recording = recordingOf(session);
        for (int event = deskOf(session).events - 1; event >= 0; event--) {
            if (recording.number(Recording.SORT, event) == SIZED) {
                return recording.number(height ? Recording.HEIGHT : Recording.VALUE, event);
            }
        }
        return sessions.sizeOf(session, height);
    }

    private int reasonNotToType(int user, Seat seat) {
        if (seat.way == NOTHING) {
            return 1;
        }
        if (seat.way != LIVE) {
            return 2;
        }
        Desk desk = deskOf(seat.session);
        if (desk.holder == NOBODY) {
            return 3;
        }
        if (desk.holder != user) {
            return 4;
        }
        return desk.events >= MOST_EVENTS ? 5 : 0;
    }

    private boolean controlsItsSession(int user, Seat seat) {
        return seat.way == LIVE && deskOf(seat.session).holder == user;
    }

    private void loseControl(int user, Seat seat) {
        if (seat.way != LIVE) {
            return;
        }
        Desk desk = deskOf(seat.session);
        if (desk.asker == user) {
            desk.asker = NOBODY;
        }
        if (desk.holder == user) {
            desk.handOver();
        }
    }

    private int grantOldRequests() {
        int granted = 0;
        for (int session = 0; session < sessions.count; session++) {
            Desk desk = deskOf(session);
            if (desk.asker != NOBODY && now.time - desk.askedAt >= now.settings[WAIT]) {
                desk.handOver();
                now.accounts[UNANSWERED]++;
                granted++;
            }
        }
        return granted;
    }

    private void putOut(int character) {
        if (outputLength < output.length) {
            output[outputLength] = character;
            outputLength++;
        }
    }

    private static int characterFor(int symbol) {
        return symbol == SPACE ? ' ' : 'a' + symbol - 1;
    }

    private static int groupAt(int groups, int index) {
        return groups >> 5 * (GROUPS - 1 - index) & 31;
    }

    /** Answers how many groups are used, or 0 if the groups are not well formed. */
    private static int groupsIn(int groups, int greatest) {
        if (groups <= 0 || groups >> 5 * GROUPS != 0) {
            return 0;
        }
        int used = 0;
        for (int i = 0; i < GROUPS; i++) {
            int group = groupAt(groups, i);
            if (group > greatest || group != 0 && used < i) {
                return 0;
            }
            if (group != 0) {
                used++;
            }
        }
        return used;
    }

    /** What is declared and stays until the next load: the names and first sizes of one sort of things. */
    private static final class Things {
        private final int most;
        private final int[] names = new int[MOST_USERS];
        private final int[] widths = new int[MOST_USERS];
        private final int[] heights = new int[MOST_USERS];
        int count = 0;

        Things(int most) {
            this.most = most;
        }

        boolean has(int index) {
            return index >= 0 && index < count && index < names.length;
        }

        boolean isFull() {
            return count >= most || count >= names.length;
        }

        int indexOf(int name) {
            for (int i = 0; i < count && i < names.length; i++) {
                if (names[i] == name) {
                    return i;
                }
            }
            return NOT_FOUND;
        }

        int sizeOf(int index, boolean height) {
            if (!has(index)) {
                return 0;
            }
            return height ? heights[index] : widths[index];
        }

        void add(int name, int width, int height) {
            if (!isFull()) {
                names[count] = name;
                widths[count] = width;
                heights[count] = height;
                count++;
            }
        }

        void copyFrom(Things other) {
            count = 0;
            for (int i = 0; i < other.count && i < other.names.length; i++) {
                add(other.names[i], other.widths[i], other.heights[i]);
            }
        }
    }

    /** The events of a session. How many of them count is told by its desk, so that undo need not touch them. */
    private static final class Recording {
        static final int SORT = 0, VALUE = 1, HEIGHT = 2, TIME = 3;
        private static final int TYPIST = 4, NUMBERS = 5;
        private final int[][] numbers = new int[NUMBERS][MOST_EVENTS];

        int number(int what, int event) {
            if (what < 0 || what >= NUMBERS || event < 0 || event >= MOST_EVENTS) {
                return 0;
            }
            return numbers[what][event];
        }

        void putTyped(int event, int symbol, int time, int user) {
            put(event, TYPED, symbol, 0);
            putOrigin(event, time, user);
        }

        void putSized(int event, int width, int height, int time) {
            put(event, SIZED, width, height);
            putOrigin(event, time, NOBODY);
        }

        int timeBetween(int earlier, int later) {
            return number(TIME, later) - number(TIME, earlier);
        }

        int eventsTypedBy(int user, int events) {
            int typed = 0;
            for (int event = 0; event < events && event < MOST_EVENTS; event++) {
                if (numbers[TYPIST][event] == user) {
                    typed++;
                }
            }
            return typed;
        }

        private void put(int event, int sort, int value, int height) {
            if (event >= 0 && event < MOST_EVENTS) {
                numbers[SORT][event] = sort;
                numbers[VALUE][event] = value;
                numbers[HEIGHT][event] = height;
            }
        }

        private void putOrigin(int event, int time, int typist) {
            if (event >= 0 && event < MOST_EVENTS) {
                numbers[TIME][event] = time;
                numbers[TYPIST][event] = typist;
            }
        }
    }

    /** What changes of a session. */
    private static final class Desk {
        int events = 0;
        int holder = NOBODY;
        int asker = NOBODY;
        int askedAt = 0;

        void handOver() {
            holder = asker;
            asker = NOBODY;
        }

        void restart() {
            events = 0;
            holder = NOBODY;
            asker = NOBODY;
            askedAt = 0;
        }

        void copyFrom(Desk other) {
            events = other.events;
            holder = other.holder;
            asker = other.asker;
            askedAt = other.askedAt;
        }
    }

    /** What changes of a user; position is where it stopped, or from where it replays. */
    private static final class Seat {
        int width = 0;
        int height = 0;
        int way = NOTHING;
        int session = 0;
        int position = 0;
        int startedAt = 0;
        int speed = 0;
        int linesBack = 0;

        boolean watches(int aSession, int aWay) {
            return way == aWay && session == aSession;
        }

        int windowSize(boolean ofHeight) {
            return ofHeight ? height : width;
        }

        void restart(int aWidth, int aHeight) {
            width = aWidth;
            height = aHeight;
            way = NOTHING;
            session = 0;
            position = 0;
            startedAt = 0;
            speed = 0;
            linesBack = 0;
        }

        void copyFrom(Seat other) {
            width = other.width;
            height = other.height;
            way = other.way;
            session = other.session;
            position = other.position;
            startedAt = other.startedAt;
            speed = other.speed;
            linesBack = other.linesBack;
        }
    }

    /** Everything that an undo brings back. */
    private static final class State {
        int time = 0;
        final int[] settings = new int[SETTINGS];
        final int[] accounts = new int[ACCOUNTS];
        final Desk[] desks = new Desk[MOST_SESSIONS];
        final Seat[] seats = new Seat[MOST_USERS];

        State() {
            for (int i = 0; i < SETTINGS; i++) {
                settings[i] = INITIAL_SETTING[i];
            }
            for (int i = 0; i < MOST_SESSIONS; i++) {
                desks[i] = new Desk();
            }
            for (int i = 0; i < MOST_USERS; i++) {
                seats[i] = new Seat();
            }
        }

        void restart(Things users, int[] newSettings) {
            time = 0;
            for (int i = 0; i < SETTINGS && i < newSettings.length; i++) {
                settings[i] = newSettings[i];
            }
            for (int i = 0; i < ACCOUNTS; i++) {
                accounts[i] = 0;
            }
            for (int i = 0; i < MOST_SESSIONS; i++) {
                desks[i].restart();
            }
            for (int i = 0; i < MOST_USERS; i++) {
                seats[i].restart(users.sizeOf(i, false), users.sizeOf(i, true));
            }
        }

        void copyFrom(State other) {
            time = other.time;
            for (int i = 0; i < SETTINGS; i++) {
                settings[i] = other.settings[i];
            }
            for (int i = 0; i < ACCOUNTS; i++) {
                accounts[i] = other.accounts[i];
            }
            for (int i = 0; i < MOST_SESSIONS; i++) {
                desks[i].copyFrom(other.desks[i]);
            }
            for (int i = 0; i < MOST_USERS; i++) {
                seats[i].copyFrom(other.seats[i]);
            }
        }
    }

    /** The states ahead of the latest changes; the rows go round, so that no change makes an object. */
    private static final class History {
        private final State[] states = new State[MOST_CHANGES];
        private int next = 0;
        int count = 0;

        History() {
            for (int i = 0; i < MOST_CHANGES; i++) {
                states[i] = new State();
            }
        }

        void keep(State state) {
            states[Math.floorMod(next, MOST_CHANGES)].copyFrom(state);
            next = Math.floorMod(next + 1, MOST_CHANGES);
            count = Math.min(count + 1, MOST_CHANGES);
        }

        void takeBack(State state) {
            if (count > 0) {
                count--;
                next = Math.floorMod(next - 1, MOST_CHANGES);
                state.copyFrom(states[next]);
            }
        }

        void forget() {
            count = 0;
        }
    }

    /**
     * A screen with the lines that went up ahead of it, all in one ring of lines: that a row goes up
     * moves only the border between them. Places right of a line's end always hold SPACE.
     */
    private static final class Screen {
        private static final int LINES = MOST_LINES_UP + MOST_HEIGHT;
        private final int[] places = new int[LINES * MOST_WIDTH];
        private int first = 0;
        int up = 0;
        int width = 0;
        int height = 0;
        int row = 0;
        int column = 0;

        void restart(int newWidth, int newHeight) {
            first = 0;
            up = 0;
            width = newWidth;
            height = 0;
            row = 0;
            column = 0;
            for (int i = 0; i < newHeight; i++) {
                addRow();
            }
        }

        int cursorLine() {
            return up + row;
        }

        int symbolInLine(int line, int place) {
            if (line < 0 || line >= up + height || place < 0 || place >= MOST_WIDTH) {
                return SPACE;
            }
            return places[startOf(line) + place];
        }

        int symbolOnScreen(int aRow, int aColumn) {
            return symbolInLine(up + aRow, aColumn);
        }

        int fullPlaces() {
            int full = 0;
            for (int i = 0; i < height; i++) {
                for (int j = 0; j < width; j++) {
                    if (symbolOnScreen(i, j) != SPACE) {
                        full++;
                    }
                }
            }
            return full;
        }

        boolean showsWord(int letters) {
            for (int i = 0; i < height; i++) {
                for (int j = 0; j < width; j++) {
                    if (showsWordFrom(i, j, letters)) {
                        return true;
                    }
                }
            }
            return false;
        }

        private boolean showsWordFrom(int aRow, int aColumn, int letters) {
            for (int i = 0; i < GROUPS; i++) {
                int letter = groupAt(letters, i);
                if (letter == 0) {
                    return true;
                }
                if (symbolOnScreen(aRow, aColumn + i) != letter) {
                    return false;
                }
            }
            return true;
        }

        void play(Recording recording, int event) {
            int value = recording.number(Recording.VALUE, event);
            if (recording.number(Recording.SORT, event) == SIZED) {
                resize(value, recording.number(Recording.HEIGHT, event));
                return;
            }
            switch (value) {
                case NEWLINE:
                    goDown();
                    break;
                case RETURN:
                    column = 0;
                    break;
                case BACK:
                    column = Math.max(column - 1, 0);
                    break;
                case CLEAR:
                    clear();
                    break;
                default:
                    put(value);
                    break;
            }
            if (column >= width) {
                goDown();
            }
        }

        private void resize(int newWidth, int newHeight) {
            for (int i = 0; i < height; i++) {
                emptyFrom(up + i, newWidth);
            }
            width = newWidth;
            column = Math.min(column, newWidth - 1);
            for (int tooLow = row - newHeight + 1; tooLow > 0; tooLow--) {
                sendUppermostRowUp();
                row--;
            }
            height = Math.min(height, newHeight);
            for (int i = height; i < newHeight; i++) {
                addRow();
            }
        }

        private void goDown() {
            column = 0;
            if (row < height - 1) {
                row++;
            } else {
                sendUppermostRowUp();
                addRow();
            }
        }

        private void clear() {
            row = 0;
            column = 0;
            for (int i = 0; i < height; i++) {
                emptyFrom(up + i, 0);
            }
        }

        private void sendUppermostRowUp() {
            if (up < MOST_LINES_UP) {
                up++;
            } else {
                first = Math.floorMod(first + 1, LINES);
            }
            height--;
        }

        private void addRow() {
            height++;
            emptyFrom(up + height - 1, 0);
        }

        private void put(int symbol) {
            if (column >= 0 && column < MOST_WIDTH) {
                places[startOf(cursorLine()) + column] = symbol;
            }
            column++;
        }

        private void emptyFrom(int line, int place) {
            int start = startOf(line);
            for (int i = Math.max(place, 0); i < MOST_WIDTH; i++) {
                places[start + i] = SPACE;
            }
        }

        private int startOf(int line) {
            return Math.floorMod(first + line, LINES) * MOST_WIDTH;
        }
    }

    /** The input buffer, and the token of it that is being read. */
    private static final class Text {
        static final int END = 0, WORD = 1, NUMBER = 2, SEMICOLON = 3, OTHER = 4;
        private static final int TOO_GREAT = 1000;
        private final int[] bytes = new int[MOST_BYTES];
        int filled = 0;
        private int length = 0;
        int kind = END;
        int start = 0;
        private int end = 0;

        void append(int fourBytes) {
            for (int shift = 24; shift >= 0; shift -= 8) {
                if (filled < bytes.length) {
                    bytes[filled] = fourBytes >> shift & 255;
                    filled++;
                }
            }
        }

        void open(int newLength) {
            length = newLength;
            start = 0;
            end = 0;
            advance();
        }

        void advance() {
            start = end;
            while (start < length && (byteAt(start) == ' ' || byteAt(start) == '\n')) {
                start++;
            }
            kind = kindOf(byteAt(start));
            end = start;
            if (kind == WORD || kind == NUMBER) {
                while (end < length && kindOf(byteAt(end)) == kind) {
                    end++;
                }
            } else if (kind != END) {
                end++;
            }
        }

        int tokenLength() {
            return end - start;
        }

        boolean isWord(String word) {
            if (kind != WORD || tokenLength() != word.length()) {
                return false;
            }
            for (int i = 0; i < word.length(); i++) {
                if (byteAt(start + i) != word.charAt(i)) {
                    return false;
                }
            }
            return true;
        }

        int letters() {
            int letters = 0;
            for (int i = 0; i < GROUPS; i++) {
                letters <<= 5;
                if (start + i < end) {
                    letters |= byteAt(start + i) - 'a' + 1;
                }
            }
            return letters;
        }

        int number() {
            int number = 0;
            for (int i = start; i < end; i++) {
                number = Math.min(number * 10 + byteAt(i) - '0', TOO_GREAT);
            }
            return number;
        }

        private static int kindOf(int character) {
            if (character < 0) {
                return END;
            }
            if (character >= 'a' && character <= 'z') {
                return WORD;
            }
            if (character >= '0' && character <= '9') {
                return NUMBER;
            }
            return character == ';' ? SEMICOLON : OTHER;
        }

        private int byteAt(int index) {
            if (index < 0 || index >= length || index >= bytes.length) {
                return -1;
            }
            return bytes[index];
        }
    }

    /** What a text describes, read apart so that a text with an error changes nothing. */
    private static final class Draft {
        private static final int FINE = 0;
        final Things sessions = new Things(MOST_SESSIONS);
        final Things users = new Things(MOST_USERS);
        final int[] settings = new int[SETTINGS];
        private final boolean[] given = new boolean[SETTINGS];

        /** Answers the number of statements, or the error of the token at which the text then stands. */
        int read(Text text) {
            restart();
            int statements = 0;
            while (statements < MOST_BYTES && text.kind != Text.END) {
                int error = readStatement(text);
                if (error != FINE) {
                    return error;
                }
                statements++;
                text.advance();
            }
            return statements;
        }

        private void restart() {
            sessions.count = 0;
            users.count = 0;
            for (int i = 0; i < SETTINGS; i++) {
                settings[i] = INITIAL_SETTING[i];
                given[i] = false;
            }
        }

        /** Reads up to the semicolon, which stays the token of the text. */
        private int readStatement(Text text) {
            int error;
            if (text.isWord("session")) {
                error = readDeclaration(text, sessions);
            } else if (text.isWord("user")) {
                error = readDeclaration(text, users);
            } else if (text.isWord("set")) {
                error = readSetting(text);
            } else {
                error = SYNTAX_ERROR;
            }
            if (error != FINE) {
                return error;
            }
            text.advance();
            return text.kind == Text.SEMICOLON ? FINE : SYNTAX_ERROR;
        }

        private int readDeclaration(Text text, Things things) {
            if (things.isFull()) {
                return COUNT_ERROR;
            }
            text.advance();
            if (text.kind != Text.WORD || text.tokenLength() > GROUPS) {
                return SYNTAX_ERROR;
            }
            int name = text.letters();
            if (things.indexOf(name) != NOT_FOUND) {
                return DUPLICATE_ERROR;
            }
            int error = readNumber(text, LEAST_WIDTH, MOST_WIDTH);
            if (error != FINE) {
                return error;
            }
            int width = text.number();
            error = readNumber(text, LEAST_HEIGHT, MOST_HEIGHT);
            if (error != FINE) {
                return error;
            }
            things.add(name, width, text.number());
            return FINE;
        }

        private int readSetting(Text text) {
            text.advance();
            if (!text.isWord("wait") && !text.isWord("shrink")) {
                return SYNTAX_ERROR;
            }
            int setting = text.isWord("wait") ? WAIT : SHRINK;
            if (given[setting]) {
                return DUPLICATE_ERROR;
            }
            int error = readNumber(text, LEAST_SETTING[setting], MOST_SETTING[setting]);
            if (error != FINE) {
                return error;
            }
            given[setting] = true;
            settings[setting] = text.number();
            return FINE;
        }

        private int readNumber(Text text, int least, int most) {
            text.advance();
            if (text.kind != Text.NUMBER) {
                return SYNTAX_ERROR;
            }
            return text.number() < least || text.number() > most ? RANGE_ERROR : FINE;
        }
    }
}

/** Objects in which something goes on already, and what the tests ask of them more than once. */
final class Setups {
    private Setups() { }

    /** A session of this size, and user 0 with its control and user 1 who only may come. */
    static SharedConsole typing(int width, int height) {
        SharedConsole x = Texts.loaded("session s " + width + " " + height + ";user a 16 6;user b 3 2;session t 2 1;");
        x.attach(0, 0);
        x.request(0);
        return x;
    }

    /** Session s of 4 by 2 with user a (4 by 2) in control, a session t, and users b (3 by 1) and c (16 by 6). */
    static SharedConsole watching(String keys) {
        SharedConsole x = Texts.loaded("session s 4 2;session t 6 3;user a 4 2;user b 3 1;user c 16 6;");
        x.attach(0, 0);
        x.request(0);
        Texts.type(x, 0, keys);
        return x;
    }

    /** Users 0, 1 and 2 watch session 0; user 0 controls it; user 3 watches nothing. */
    static SharedConsole controlled() {
        SharedConsole x = Texts.loaded("session s 4 2;session t 4 2;user a 4 2;user b 4 2;user c 4 2;user d 4 2;");
        x.attach(0, 0);
        x.attach(1, 0);
        x.attach(2, 0);
        x.request(0);
        return x;
    }

    /** Who controls a session, who asks for that, and since when. */
    static String control(SharedConsole x, int session) {
        return x.session(session, 3) + " " + x.session(session, 4) + " " + x.session(session, 5);
    }

    static String accounts(SharedConsole x) {
        return x.account(0) + " " + x.account(1) + " " + x.account(2) + " " + x.account(3);
    }
}

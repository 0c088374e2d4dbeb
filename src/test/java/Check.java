/** Counts what is checked, and tells what is not as it is due. */
final class Check {
    private static int passed = 0;
    private static int failed = 0;

    private Check() { }

    static void due(String what, Object got, Object want) {
        if (want.equals(got)) {
            passed++;
        } else {
            failed++;
            System.out.println(what + ": " + got + ", due is " + want);
        }
    }

    static void dueThrow(String what, Runnable call) {
        String got = "nothing";
        try {
            call.run();
        } catch (RuntimeException e) {
            got = e.getClass().getName();
        }
        due(what + " throws", got, "java.lang.IndexOutOfBoundsException");
    }

    static boolean anyFailed() {
        return failed > 0;
    }

    static void end() {
        System.out.println(passed + " passed, " + failed + " failed");
        if (failed > 0) {
            System.exit(1);
        }
    }
}

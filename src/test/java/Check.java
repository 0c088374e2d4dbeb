import java.util.function.IntConsumer;

/** Counts what is checked, and tells what is not as it is due. */
final class Check {
    private static int passed = 0;
    private static int failed = 0;
    private static String heading = "";
    private static int checkedBefore = 0;

    private Check() { }

    static void due(String what, Object got, Object want) {
        if (want.equals(got)) {
            passed++;
        } else {
            fault(what + ": " + got + ", due is " + want);
        }
    }

    static void dueThrow(String what, Runnable call) {
        String got = "nothing";
        try {
            call.run();
        } catch (RuntimeException e) {
            got = e.getClass().getName();
        }
        due(what + " throws", got, "java.lang.IndexOutOfBoundsException");
    }

    /** The call must throw with each of these numbers, none of which is an index of what it asks for. */
    static void dueThrow(String what, IntConsumer call, int... wrong) {
        for (int number : wrong) {
            dueThrow(what + " " + number, () -> call.accept(number));
        }
    }

    static void fault(String told) {
        failed++;
        System.out.println(heading + (heading.isEmpty() ? "" : "\n    ") + told);
    }

    /** What is checked from here on stands under this heading, under which something must be checked. */
    static void under(String newHeading) {
        noEmptyHeading();
        heading = newHeading;
        checkedBefore = passed + failed;
    }

    private static void noEmptyHeading() {
        if (!heading.isEmpty() && passed + failed == checkedBefore) {
            fault("nothing is checked");
        }
    }

    static boolean anyFailed() {
        return failed > 0;
    }

    static void end() {
        noEmptyHeading();
        System.out.println(passed + " passed, " + failed + " failed");
        if (failed > 0) {
            System.exit(1);
        }
    }
}

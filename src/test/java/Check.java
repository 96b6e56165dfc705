/** Counts what the tests find, and ends their run. */
final class Check {
    interface Call {
        Object run();
    }

    private static int passed = 0;
    private static int failed = 0;

    private Check() {
    }

    static void equal(String what, Object got, Object due) {
        if (due.equals(got)) {
            passed++;
        } else {
            failed++;
            System.out.println(what + ": got " + got + ", due is " + due);
        }
    }

    static void isTrue(String what, boolean isSo) {
        equal(what, isSo, true);
    }

    /** The answer of a call as text: its value, or the name of the exception that it throws. */
    static String answer(Call call) {
        try {
            return String.valueOf(call.run());
        } catch (RuntimeException e) {
            return "throws " + e.getClass().getSimpleName();
        }
    }

    /** Prints the line that tells the counts, and ends with exit code 1 if a check failed. */
    static void end() {
        System.out.println(passed + " passed, " + failed + " failed");
        if (failed != 0) {
            System.exit(1);
        }
    }
}

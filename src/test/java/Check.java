import java.util.Set;
import java.util.TreeSet;

/** Counts what the tests find, and ends their run. */
final class Check {
    interface Call {
        Object run();
    }

    private static final Set<String> NAMES = new TreeSet<>();
    private static int passed = 0;
    private static int failed = 0;
    private static String current = "";

    private Check() {
    }

    /** Runs a test that has a name of its own; what it lets out fails it, and the next ones run. */
    static void test(String name, Runnable body) {
        current = name + ": ";
        isTrue("no other test has its name", NAMES.add(name));
        int before = passed + failed;
        try {
            body.run();
            isTrue("it checks something", passed + failed > before);
        } catch (RuntimeException e) {
            isTrue("it lets out " + e, false);
        }
        current = "";
    }

    /** The number of tests whose names begin in this way. */
    static long countTests(String beginning) {
        return NAMES.stream().filter(name -> name.startsWith(beginning)).count();
    }

    static void equal(String what, Object got, Object due) {
        if (due.equals(got)) {
            passed++;
        } else {
            failed++;
            System.out.println(current + what + ": got " + got + ", due is " + due);
        }
    }

    static void isTrue(String what, boolean isSo) {
        equal(what, isSo, true);
    }

    /** The answer of a call as text: its value, or the name of the exception that it throws. */
    static String answer(Call call) {
        try {
            return String.valueOf(call.run());
        } catch (RuntimeException e) {
            return "throws " + e.getClass().getSimpleName();
        }
    }

    /** Prints the line that tells the counts, and ends with exit code 1 if a check failed. */
    static void end() {
        System.out.println(passed + " passed, " + failed + " failed");
        if (failed != 0) {
            System.exit(1);
        }
    }
}

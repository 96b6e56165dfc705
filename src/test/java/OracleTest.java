import java.lang.reflect.InvocationTargetException;
import java.lang.reflect.Method;
import java.util.ArrayList;
import java.util.Arrays;
import java.util.Comparator;
import java.util.List;
import java.util.Random;

/**
 * Runs of random calls, the same on every machine: each answer and each exception must be the one
 * of Oracle, and behind each call that throws the state must be as before.
 */
public final class OracleTest {
    private static final int RUNS = 400;
    /** An object is good for 512 calls; an input text and the digest at the end take up to 96. */
    private static final int CALLS = 512 - 96;
    private static final String[] CHANGES = {
        "insert", "insert", "remove", "setMark", "setMark", "setColumn", "setSpace", "setPenalties",
        "setPage", "setOptimal", "load", "undo", "append", "clearText"};

    private final Random random;
    private final RaggedColumns program = new RaggedColumns();
    private final Oracle oracle = new Oracle();
    private final List<Method> face;
    private final int widestWord;
    private final int highestPenalty;
    private final StringBuilder story = new StringBuilder();
    private int calls = 0;
    private boolean isRight = true;

    private OracleTest(int run) {
        random = new Random(run);
        widestWord = new int[] {2, 6, 15, 30}[run % 4];
        highestPenalty = new int[] {0, 20, 200, 9999}[run / 4 % 4];
        face = new ArrayList<>(Arrays.asList(RaggedColumns.class.getDeclaredMethods()));
        face.removeIf(method -> !java.lang.reflect.Modifier.isPublic(method.getModifiers()));
        // The order of reflection is not promised.
        face.sort(Comparator.comparing(Method::getName));
    }

    public static void main(String[] args) {
        for (int run = 0; run < RUNS; run++) {
            OracleTest test = new OracleTest(run);
            test.run();
            Check.isTrue("run " + run + test.story, test.isRight);
        }
        Check.end();
    }

    private void run() {
        same("setPenalties", 1 + random.nextInt(5), penalty(), penalty());
        while (calls < CALLS && isRight) {
            int kind = random.nextInt(12);
            if (kind == 0) {
                loadText();
            } else if (kind < 6) {
                call(CHANGES[random.nextInt(CHANGES.length)]);
            } else {
                call(face.get(random.nextInt(face.size())).getName());
            }
        }
        same("digest");
    }

    private void loadText() {
        same("clearText");
        StringBuilder text = new StringBuilder();
        int words = 1 + random.nextInt(20);
        for (int i = 0; i < words; i++) {
            text.append(i == 0 ? "" : ",").append(1 + random.nextInt(widestWord));
            text.append(new String[] {"", "", "", "", "", "", "!", "/"}[random.nextInt(8)]);
        }
        for (char c : text.toString().toCharArray()) {
            same("append", (int) c);
        }
        same("load");
    }

    private void call(String name) {
        int words = oracle.words();
        int lines = oracle.lines();
        switch (name) {
            case "insert" -> same(name, near(0, words), random.nextInt(4) == 0
                    ? near(1, 30) : 1 + random.nextInt(widestWord));
            case "remove", "wordWidth", "mark", "lineOf", "reason" -> same(name, near(0, words - 1));
            case "setMark", "costIfMarked" -> same(name, near(0, words - 1), near(0, 2));
            case "setColumn" -> same(name, near(30, 100));
            case "setSpace" -> same(name, near(1, 5));
            case "setPenalties" -> same(name, near(1, 20), random.nextInt(4) == 0
                    ? near(0, 9999) : penalty(), random.nextInt(4) == 0 ? near(0, 9999) : penalty());
            case "setPage" -> same(name, random.nextBoolean() ? near(2, 20) : 2 + random.nextInt(4));
            case "setOptimal" -> same(name, random.nextInt(4) != 0);
            case "firstWord", "lineWidth", "stairAt", "pageOf" -> same(name, near(0, lines - 1));
            case "linesOn" -> same(name, near(0, oracle.pages() - 1));
            case "costFor" -> same(name, near(30, 100), random.nextBoolean());
            case "bestColumn" -> bestColumn();
            case "append" -> same(name, code());
            default -> same(name);
        }
    }

    private void bestColumn() {
        int low = near(30, 100);
        same("bestColumn", low, random.nextInt(3) == 0 ? near(30, 100) : low + random.nextInt(12));
    }

    private int penalty() {
        return random.nextInt(highestPenalty + 1);
    }

    private int code() {
        return random.nextInt(10) == 0 ? near(33, 126) : "0123456789,,!/".charAt(random.nextInt(14));
    }

    /** Mostly a number from low to high, sometimes one beside them or far away. */
    private int near(int low, int high) {
        switch (random.nextInt(24)) {
            case 0:
                return low - 1;
            case 1:
                return high + 1;
            case 2:
                return low;
            case 3:
                return high;
            case 4:
                return new int[] {Integer.MIN_VALUE, Integer.MAX_VALUE, -100, 1000}[random.nextInt(4)];
            default:
                return low + random.nextInt(Math.max(high - low + 1, 1));
        }
    }

    private void same(String name, Object... arguments) {
        String due = answer(oracle, name, arguments);
        String got = answer(program, name, arguments);
        calls++;
        story.append("\n  ").append(name).append(Arrays.toString(arguments)).append(" -> ").append(got);
        if (!got.equals(due)) {
            isRight = false;
            story.append(", due is ").append(due);
        } else if (got.startsWith("throws") && calls < CALLS) {
            same("digest");
            same("savedStates");
            same("firstError");
        }
    }

    private static String answer(Object object, String name, Object[] arguments) {
        for (Method method : object.getClass().getDeclaredMethods()) {
            if (method.getName().equals(name) && method.getParameterCount() == arguments.length) {
                return answer(object, method, arguments);
            }
        }
        throw new AssertionError("no method " + name);
    }

    private static String answer(Object object, Method method, Object[] arguments) {
        try {
            return String.valueOf(method.invoke(object, arguments));
        } catch (InvocationTargetException e) {
            return "throws " + e.getCause().getClass().getSimpleName();
        } catch (IllegalAccessException e) {
            throw new AssertionError(e);
        }
    }
}

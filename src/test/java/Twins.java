import java.util.List;
import java.util.function.Supplier;

/**
 * Two objects made in the same way, one of which gets a call more: whatever is asked of them, they
 * must answer the same where the call changes nothing. Each probe below gets new twins, since it
 * changes what it looks at, and an object is good for 512 calls only.
 */
final class Twins {
    static final String INDEX = "throws IndexOutOfBoundsException";
    static final String ARGUMENT = "throws IllegalArgumentException";
    static final String STATE = "throws IllegalStateException";

    interface Call {
        Object on(RaggedColumns x);
    }

    private static final List<Call> PROBES = List.of(
            Twins::ofWords, Twins::ofLines, Twins::ofForecasts, Twins::ofInput, Twins::ofSaved,
            x -> settingsBehindUndo(x, 0), x -> settingsBehindUndo(x, 1),
            x -> settingsBehindUndo(x, 2), x -> settingsBehindUndo(x, 3),
            x -> settingsBehindUndo(x, 4), x -> settingsBehindUndo(x, 5),
            x -> settingsBehindUndo(x, 6));

    private Twins() {
    }

    /** The call throws what is due and changes nothing. */
    static void refused(Supplier<RaggedColumns> maker, String due, Call call) {
        RaggedColumns x = maker.get();
        Check.equal("the call", Check.answer(() -> call.on(x)), due);
        same("the refused call", maker, y -> Check.answer(() -> call.on(y)));
    }

    /** The call answers and changes nothing. */
    static void unchanged(Supplier<RaggedColumns> maker, Call call) {
        RaggedColumns x = maker.get();
        Check.isTrue("the call answers", !Check.answer(() -> call.on(x)).startsWith("throws"));
        same("the call", maker, call);
    }

    /** The call saves one state more, and undo brings everything back that the call has changed. */
    static void undone(Supplier<RaggedColumns> maker, Call call) {
        RaggedColumns x = maker.get();
        int saved = x.savedStates();
        call.on(x);
        Check.equal("the saved states behind the call", x.savedStates(), saved + 1);
        Check.equal("undo", x.undo(), saved);
        same("the call with undo", maker, y -> "" + call.on(y) + y.undo());
    }

    private static void same(String what, Supplier<RaggedColumns> maker, Call call) {
        for (int probe = 0; probe < PROBES.size(); probe++) {
            Object due = PROBES.get(probe).on(maker.get());
            RaggedColumns twin = maker.get();
            call.on(twin);
            Object got = PROBES.get(probe).on(twin);
            Check.equal("behind " + what + ", probe " + probe, got, due);
        }
    }

    private static String ofWords(RaggedColumns x) {
        return Samples.widths(x) + Samples.marks(x) + Samples.list(x.words(), x::lineOf)
                + Samples.list(x.words(), x::reason) + " " + x.paragraphs() + " " + x.digest();
    }

    private static String ofLines(RaggedColumns x) {
        return Samples.list(x.lines(), x::firstWord) + Samples.lineWidths(x)
                + Samples.list(x.lines(), x::stairAt) + Samples.list(x.lines(), x::pageOf)
                + Samples.pageLengths(x) + " " + x.cost() + " " + x.stairs() + " " + x.widows()
                + " " + x.orphans();
    }

    private static String ofForecasts(RaggedColumns x) {
        return Samples.list(71, width -> x.costFor(30 + width, true))
                + Samples.list(71, width -> x.costFor(30 + width, false))
                + " " + x.saving() + " " + x.bestColumn(30, 100);
    }

    private static String ofInput(RaggedColumns x) {
        String firstError = x.firstError() + " ";
        String load = Check.answer(x::load);
        return firstError + load + Samples.widths(x) + Samples.marks(x) + " " + x.clearText();
    }

    private static String ofSaved(RaggedColumns x) {
        StringBuilder answers = new StringBuilder();
        for (int left = x.savedStates(); left >= 0; left--) {
            answers.append(x.savedStates()).append(' ').append(x.digest()).append(' ');
            answers.append(x.costFor(30, true)).append(' ').append(x.costFor(100, false)).append(' ');
            answers.append(Check.answer(x::undo)).append(' ');
        }
        return answers.append(x.clearText()).toString();
    }

    /** All settings, even those without an effect on the text, behind some undos. */
    private static String settingsBehindUndo(RaggedColumns x, int undos) {
        for (int i = 0; i < undos; i++) {
            Check.answer(x::undo);
        }
        x.clearText();
        while (x.words() > 0) {
            x.remove(x.words() - 1);
        }
        String settings = x.setColumn(60) + " " + x.setSpace(2) + " " + x.setPage(6) + " "
                + x.setOptimal(false);
        // Greedy lines of 50, 30 and 10 are a stair for every step that is allowed.
        Samples.type(x, "30,18!,30!,10!,30");
        x.load();
        int stairPenalty = x.cost() - 100 - 900 - 2500;
        x.remove(4);
        int shortPenalty = x.cost() - 100 - 900;
        return settings + " " + stairPenalty + " " + shortPenalty + " " + x.setPenalties(3, 500, 300);
    }
}

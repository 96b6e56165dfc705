import java.util.function.Supplier;

/** The tests that many promises have in common: a number beside its limits is refused. */
final class Limits {
    interface NumberCall {
        Object on(RaggedColumns x, int number);
    }

    private Limits() {
    }

    /** A number of a word, line or page: 0 to count - 1. */
    static void index(String name, Supplier<RaggedColumns> maker, int count, NumberCall call) {
        outside(name, maker, 0, count - 1, Twins.INDEX, call);
    }

    /** An argument with a range. */
    static void argument(String name, Supplier<RaggedColumns> maker, int least, int greatest,
            NumberCall call) {
        outside(name, maker, least, greatest, Twins.ARGUMENT, call);
    }

    private static void outside(String name, Supplier<RaggedColumns> maker, int least, int greatest,
            String due, NumberCall call) {
        refused(name + " " + (least - 1) + ", one below the least", maker, least - 1, due, call);
        refused(name + " " + (greatest + 1) + ", one above the greatest", maker, greatest + 1, due, call);
        refused(name + " as small as an int can be", maker, Integer.MIN_VALUE, due, call);
        refused(name + " as great as an int can be", maker, Integer.MAX_VALUE, due, call);
    }

    private static void refused(String name, Supplier<RaggedColumns> maker, int number, String due,
            NumberCall call) {
        Check.test(name + ", is refused and changes nothing",
                () -> Twins.refused(maker, due, x -> call.on(x, number)));
    }
}

import java.util.ArrayList;
import java.util.Arrays;
import java.util.List;
import java.util.function.ToLongFunction;

/** One test for each promise of the document: ordinary inputs, edges and wrong inputs. */
public final class PromiseTest {
    private static final String INDEX = "throws IndexOutOfBoundsException";
    private static final String ARGUMENT = "throws IllegalArgumentException";
    private static final String STATE = "throws IllegalStateException";
    private static final int[] FAR = {Integer.MIN_VALUE, -2, -1, 41, 1000, Integer.MAX_VALUE};

    private PromiseTest() {
    }

    public static void main(String[] args) {
        promise1NewObject();
        promise2Insert();
        promise3Remove();
        promise4SetMark();
        promise5Words();
        promise6WordWidth();
        promise7Mark();
        promise8SetColumn();
        promise9SetSpace();
        promise10SetPenalties();
        promise11SetPage();
        promise12SetOptimal();
        promise13Lines();
        promise14LineOf();
        promise15FirstWord();
        promise16LineWidth();
        promise17StairAt();
        promise18Reason();
        promise19Paragraphs();
        promise20Stairs();
        promise20StairsBehindChanges();
        promise21Cost();
        promise21CostAmongEqualLayouts();
        promise22Pages();
        promise23PageOf();
        promise24LinesOn();
        promise25Widows();
        promise26Orphans();
        promise27CostFor();
        promise28BestColumn();
        promise29Saving();
        promise30CostIfMarked();
        promise31Append();
        promise32ClearText();
        promise33FirstError();
        promise34Load();
        promise35Undo();
        promise36SavedStates();
        promise37Digest();
        Check.end();
    }

    // ---- tools

    /** What can be asked of the state, the buffer and the saved states without a change. */
    private static String view(RaggedColumns x) {
        return x.digest() + " " + x.costFor(30, true) + " " + x.costFor(77, false) + " "
                + x.savedStates() + " " + x.firstError();
    }

    private static void refused(RaggedColumns x, String call, String due, Check.Call run) {
        String before = view(x);
        Check.equal(call, Check.answer(run), due);
        Check.equal(call + " changes nothing", view(x), before);
    }

    /** A call that is marked undoable saves one state, and undo brings the state before it back. */
    private static void undoable(String call, RaggedColumns x, ToLongFunction<RaggedColumns> run) {
        String before = view(x);
        int saved = x.savedStates();
        run.applyAsLong(x);
        Check.equal(call + " saves one state", x.savedStates(), saved + 1);
        Check.equal("undo behind " + call, x.undo(), saved);
        Check.equal(call + " is undone", view(x), before);
    }

    // ---- the promises

    private static void promise1NewObject() {
        Check.equal("NONE", RaggedColumns.NONE, -1);
        RaggedColumns x = new RaggedColumns();
        int[] zeros = {x.words(), x.lines(), x.paragraphs(), x.stairs(), x.cost(), x.pages(),
            x.widows(), x.orphans(), x.saving(), x.firstError(), x.clearText(), x.savedStates()};
        Check.equal("a new object", Arrays.toString(zeros), Arrays.toString(new int[12]));
        Check.equal("its column", x.setColumn(30), 60);
        Check.equal("its space", x.setSpace(1), 2);
        Check.equal("its step", x.setPenalties(1, 1, 1), 3);
        Check.equal("its page", x.setPage(2), 6);
        Check.equal("its mode", x.setOptimal(false), true);
        Check.equal("its stair penalty", Samples.text("30!,20!,10!,30").cost(), 900 + 1600 + 2500 + 500);
        Check.equal("its short penalty", Samples.text("30!,14").cost(), 900 + 300);
    }

    private static void promise2Insert() {
        RaggedColumns x = new RaggedColumns();
        Check.equal("insert first", x.insert(0, 30), 1);
        Check.equal("insert behind", x.insert(1, 1), 2);
        x.setMark(0, 1);
        x.setMark(1, 2);
        Check.equal("insert between", x.insert(1, 7), 3);
        Check.equal("insert ahead", x.insert(0, 9), 4);
        Check.equal("widths", Samples.widths(x), "[9, 30, 7, 1]");
        Check.equal("marks stay with their words", Samples.marks(x), "[0, 1, 0, 2]");
        refused(x, "insert(5, 1)", INDEX, () -> x.insert(5, 1));
        refused(x, "insert(-1, 0)", INDEX, () -> x.insert(-1, 0));
        refused(x, "insert(0, 0)", ARGUMENT, () -> x.insert(0, 0));
        refused(x, "insert(4, 31)", ARGUMENT, () -> x.insert(4, 31));
        RaggedColumns full = Samples.fullText(30);
        Check.equal("40 words", full.words(), 40);
        for (int word : FAR) {
            refused(full, "insert far", INDEX, () -> full.insert(word, 31));
        }
        refused(full, "insert(40, 31) when full", ARGUMENT, () -> full.insert(40, 31));
        refused(full, "insert(40, 30) when full", STATE, () -> full.insert(40, 30));
        refused(full, "insert(0, 1) when full", STATE, () -> full.insert(0, 1));
        undoable("insert", Samples.text("5,6!,7/"), y -> y.insert(1, 20));
    }

    private static void promise3Remove() {
        RaggedColumns x = Samples.text("5!,6,7/,8!");
        Check.equal("remove between", x.remove(1), 6);
        Check.equal("marks stay", Samples.marks(x), "[1, 2, 1]");
        Check.equal("remove last", x.remove(2), 8);
        Check.equal("remove first", x.remove(0), 5);
        Check.equal("widths", Samples.widths(x), "[7]");
        Check.equal("marks", Samples.marks(x), "[2]");
        refused(x, "remove(1)", INDEX, () -> x.remove(1));
        refused(x, "remove(-1)", INDEX, () -> x.remove(-1));
        Check.equal("remove all", x.remove(0), 7);
        Check.equal("no words", x.words(), 0);
        refused(x, "remove(0) of none", INDEX, () -> x.remove(0));
        Check.equal("a new word has no mark of an old one", x.insert(0, 5), 1);
        Check.equal("its mark", x.mark(0), 0);
        RaggedColumns full = Samples.fullText(2);
        Check.equal("remove(39)", full.remove(39), 2);
        Check.equal("room again", full.insert(39, 4), 40);
        undoable("remove", Samples.text("5!,6,7/,8!"), y -> y.remove(0));
    }

    private static void promise4SetMark() {
        RaggedColumns x = Samples.text("5,6,7");
        Check.equal("setMark(0, 1)", x.setMark(0, 1), 0);
        Check.equal("setMark(0, 2)", x.setMark(0, 2), 1);
        Check.equal("setMark(0, 0)", x.setMark(0, 0), 2);
        Check.equal("setMark(2, 2)", x.setMark(2, 2), 0);
        Check.equal("marks", Samples.marks(x), "[0, 0, 2]");
        refused(x, "setMark(3, 3)", INDEX, () -> x.setMark(3, 3));
        refused(x, "setMark(-1, 0)", INDEX, () -> x.setMark(-1, 0));
        refused(x, "setMark(0, 3)", ARGUMENT, () -> x.setMark(0, 3));
        refused(x, "setMark(0, -1)", ARGUMENT, () -> x.setMark(0, -1));
        undoable("setMark", Samples.text("5!,6,7/,8!"), y -> y.setMark(1, 2));
        undoable("setMark that changes nothing", Samples.text("5!,6"), y -> y.setMark(0, 1));
    }

    private static void promise5Words() {
        Check.equal("words of none", new RaggedColumns().words(), 0);
        Check.equal("words", Samples.text("5!,6,7/,8!").words(), 4);
        Check.equal("words of a full text", Samples.fullText(1).words(), 40);
    }

    private static void promise6WordWidth() {
        RaggedColumns x = Samples.text("1,30,10!,20/");
        Check.equal("widths", Samples.widths(x), "[1, 30, 10, 20]");
        refused(x, "wordWidth(4)", INDEX, () -> x.wordWidth(4));
        for (int word : FAR) {
            refused(x, "wordWidth far", INDEX, () -> x.wordWidth(word));
        }
        refused(new RaggedColumns(), "wordWidth(0)", INDEX, () -> new RaggedColumns().wordWidth(0));
        Check.equal("wordWidth(39)", Samples.fullText(17).wordWidth(39), 17);
    }

    private static void promise7Mark() {
        RaggedColumns x = Samples.text("1,30!,10/,20");
        Check.equal("marks", Samples.marks(x), "[0, 1, 2, 0]");
        refused(x, "mark(4)", INDEX, () -> x.mark(4));
        for (int word : FAR) {
            refused(x, "mark far", INDEX, () -> x.mark(word));
        }
    }

    private static void promise8SetColumn() {
        RaggedColumns x = Samples.text("20,20,20,20");
        Check.equal("setColumn(30)", x.setColumn(30), 60);
        Check.equal("lines of 30", Samples.lineWidths(x), "[20, 20, 20, 20]");
        Check.equal("setColumn(100)", x.setColumn(100), 30);
        Check.equal("lines of 100", Samples.lineWidths(x), "[86]");
        for (int width : new int[] {29, 101, 0, -60, Integer.MIN_VALUE, Integer.MAX_VALUE}) {
            refused(x, "setColumn(" + width + ")", ARGUMENT, () -> x.setColumn(width));
        }
        Check.equal("setColumn again", x.setColumn(86), 100);
        Check.equal("a line as wide as the column", Samples.lineWidths(x), "[86]");
        x.setColumn(85);
        Check.equal("a line too wide", x.lines(), 2);
        undoable("setColumn", Samples.text("20,20,20"), y -> y.setColumn(42));
        undoable("setColumn to what it was", Samples.text("20,20,20"), y -> y.setColumn(60));
    }

    private static void promise9SetSpace() {
        RaggedColumns x = Samples.text("10,10,10");
        Check.equal("setSpace(1)", x.setSpace(1), 2);
        Check.equal("with 1", Samples.lineWidths(x), "[32]");
        Check.equal("setSpace(5)", x.setSpace(5), 1);
        Check.equal("with 5", Samples.lineWidths(x), "[40]");
        for (int width : new int[] {0, 6, -1, Integer.MIN_VALUE, Integer.MAX_VALUE}) {
            refused(x, "setSpace(" + width + ")", ARGUMENT, () -> x.setSpace(width));
        }
        Check.equal("setSpace again", x.setSpace(5), 5);
        undoable("setSpace", Samples.text("20,20,20"), y -> y.setSpace(1));
    }

    private static void promise10SetPenalties() {
        // Lines of 30, 20, 10 and 14: slack 30, 40 and 50, one stair by steps of 10, a short end.
        RaggedColumns x = Samples.text("30!,20!,10!,14");
        Check.equal("setPenalties(10, 9999, 9999)", x.setPenalties(10, 9999, 9999), 3);
        Check.equal("greatest penalties", x.cost(), 5000 + 9999 + 9999);
        Check.equal("setPenalties(11, 1, 2)", x.setPenalties(11, 1, 2), 10);
        Check.equal("a step too small for a stair", x.cost(), 5000 + 2);
        Check.equal("setPenalties(1, 0, 0)", x.setPenalties(1, 0, 0), 11);
        Check.equal("no penalties", x.cost(), 5000);
        Check.equal("a stair without a penalty is one", x.stairs(), 1);
        Check.equal("setPenalties(20, 4, 5)", x.setPenalties(20, 4, 5), 1);
        int[][] wrong = {{0, 0, 0}, {21, 0, 0}, {1, -1, 0}, {1, 10000, 0}, {1, 0, -1}, {1, 0, 10000},
            {Integer.MIN_VALUE, 0, 0}, {1, Integer.MAX_VALUE, 0}, {1, 0, Integer.MIN_VALUE}};
        for (int[] a : wrong) {
            refused(x, "setPenalties" + Arrays.toString(a), ARGUMENT,
                    () -> x.setPenalties(a[0], a[1], a[2]));
        }
        Check.equal("the step of before", x.setPenalties(2, 8, 16), 20);
        undoable("setPenalties", Samples.text("30!,20!,10!,14"), y -> y.setPenalties(1, 1, 1));
    }

    private static void promise11SetPage() {
        RaggedColumns x = Samples.paragraphsOf(6, 1, 1, 1, 1, 1);
        Check.equal("setPage(2)", x.setPage(2), 6);
        Check.equal("pages of 2", Samples.pageLengths(x), "[2, 2, 1]");
        Check.equal("setPage(20)", x.setPage(20), 2);
        Check.equal("a page of 20", Samples.pageLengths(x), "[5]");
        for (int size : new int[] {1, 21, 0, -6, Integer.MIN_VALUE, Integer.MAX_VALUE}) {
            refused(x, "setPage(" + size + ")", ARGUMENT, () -> x.setPage(size));
        }
        Check.equal("setPage again", x.setPage(3), 20);
        undoable("setPage", Samples.text("1!,1!,1!,1"), y -> y.setPage(2));
    }

    private static void promise12SetOptimal() {
        RaggedColumns x = Samples.text("10,10,10,10,10,10");
        Check.equal("setOptimal(false)", x.setOptimal(false), true);
        Check.equal("greedy lines", Samples.lineWidths(x), "[58, 10]");
        Check.equal("setOptimal(false) again", x.setOptimal(false), false);
        Check.equal("setOptimal(true)", x.setOptimal(true), false);
        Check.equal("optimal lines", Samples.lineWidths(x), "[46, 22]");
        undoable("setOptimal", x, y -> y.setOptimal(false) ? 1 : 0);
        undoable("setOptimal to what it was", x, y -> y.setOptimal(true) ? 1 : 0);
    }

    private static void promise13Lines() {
        Check.equal("lines of none", new RaggedColumns().lines(), 0);
        Check.equal("lines of one word", Samples.text("1").lines(), 1);
        Check.equal("lines of two paragraphs", Samples.text("1/,1").lines(), 2);
        Check.equal("lines with forced breaks", Samples.text("1!,1!,1").lines(), 3);
        Check.equal("a break behind the last word makes no line", Samples.text("1,1!").lines(), 1);
        RaggedColumns wide = Samples.fullText(30);
        wide.setColumn(30);
        Check.equal("40 lines", wide.lines(), 40);
        Check.equal("the last of 40 lines", wide.lineWidth(39) + " " + wide.firstWord(39), "30 39");
        Check.equal("the page of the last of 40 lines", wide.pageOf(39), 6);
        Check.equal("the last of 40 words", wide.lineOf(39) + " " + wide.reason(39), "39 1");
        Check.equal("one line of 40 words", Samples.text(100, 1, "1,1").lines(), 1);
        RaggedColumns narrow = Samples.fullText(1);
        narrow.setSpace(1);
        narrow.setColumn(79);
        Check.equal("40 words in 79", narrow.lines(), 1);
        narrow.setOptimal(false);
        narrow.setColumn(78);
        Check.equal("40 words in 78", Samples.lineWidths(narrow), "[77, 1]");
        // Greedy lines take as many words as possible up to each forced break.
        RaggedColumns mixed = Samples.text("10,10!,10,10,10,10,10,10/,5");
        mixed.setOptimal(false);
        Check.equal("mixed lines", Samples.lineWidths(mixed), "[22, 58, 10, 5]");
    }

    private static void promise14LineOf() {
        RaggedColumns x = Samples.text("10,10!,10,10,10,10,10,10/,5");
        x.setOptimal(false);
        Check.equal("lines of the words", Samples.list(9, x::lineOf), "[0, 0, 1, 1, 1, 1, 1, 2, 3]");
        x.setOptimal(true);
        Check.equal("in optimal mode", Samples.list(9, x::lineOf), "[0, 0, 1, 1, 1, 1, 2, 2, 3]");
        refused(x, "lineOf(9)", INDEX, () -> x.lineOf(9));
        for (int word : FAR) {
            refused(x, "lineOf far", INDEX, () -> x.lineOf(word));
        }
    }

    private static void promise15FirstWord() {
        RaggedColumns x = Samples.text("10,10!,10,10,10,10,10,10/,5");
        Check.equal("first words", Samples.list(4, x::firstWord), "[0, 2, 6, 8]");
        x.setOptimal(false);
        Check.equal("in greedy mode", Samples.list(4, x::firstWord), "[0, 2, 7, 8]");
        refused(x, "firstWord(4)", INDEX, () -> x.firstWord(4));
        for (int line : FAR) {
            refused(x, "firstWord far", INDEX, () -> x.firstWord(line));
        }
        refused(new RaggedColumns(), "of none", INDEX, () -> new RaggedColumns().firstWord(0));
    }

    private static void promise16LineWidth() {
        RaggedColumns x = Samples.text(60, 5, "30,25,1/,7!,8,9");
        Check.equal("line widths", Samples.lineWidths(x), "[60, 1, 7, 22]");
        refused(x, "lineWidth(4)", INDEX, () -> x.lineWidth(4));
        for (int line : FAR) {
            refused(x, "lineWidth far", INDEX, () -> x.lineWidth(line));
        }
    }

    private static void promise17StairAt() {
        RaggedColumns x = Samples.text("30!,27!,24!,27!,30!,27!,29!,30");
        Check.equal("stairs of 3", Samples.list(8, x::stairAt), "[0, -1, 0, 1, 0, 0, 0, 0]");
        x.setPenalties(4, 1, 1);
        Check.equal("stairs of 4", Samples.list(8, x::stairAt), "[0, 0, 0, 0, 0, 0, 0, 0]");
        x.setPenalties(1, 1, 1);
        Check.equal("the last line is in no stair",
                Samples.list(8, x::stairAt), "[0, -1, 0, 1, 0, 0, 0, 0]");
        RaggedColumns parted = Samples.text("30!,20/,10!,5!,20/,9!,6!,3!,30");
        Check.equal("no stair over two paragraphs", Samples.list(9, parted::stairAt),
                "[0, 0, 0, 0, 0, 0, -1, 0, 0]");
        Check.equal("successive stairs", Samples.list(5, Samples.text("5!,10!,15!,20!,30")::stairAt),
                "[0, 1, 1, 0, 0]");
        refused(x, "stairAt(8)", INDEX, () -> x.stairAt(8));
        for (int line : FAR) {
            refused(x, "stairAt far", INDEX, () -> x.stairAt(line));
        }
    }

    private static void promise18Reason() {
        RaggedColumns x = Samples.text("30,28!,10,10,10,10,10,10/,30!,30,30!");
        Check.equal("reasons in optimal mode", Samples.list(11, x::reason),
                "[0, 2, 0, 0, 0, 4, 0, 1, 2, 3, 1]");
        x.setOptimal(false);
        Check.equal("reasons in greedy mode", Samples.list(11, x::reason),
                "[0, 2, 0, 0, 0, 0, 3, 1, 2, 3, 1]");
        x.setOptimal(true);
        x.setColumn(58);
        Check.equal("the next word would just fit", x.reason(5), 4);
        Check.equal("a mark ahead of the width", Samples.list(2, Samples.text("30!,30")::reason), "[2, 1]");
        refused(x, "reason(11)", INDEX, () -> x.reason(11));
        for (int word : FAR) {
            refused(x, "reason far", INDEX, () -> x.reason(word));
        }
    }

    private static void promise19Paragraphs() {
        Check.equal("paragraphs of none", new RaggedColumns().paragraphs(), 0);
        Check.equal("one without a mark", Samples.text("5,6").paragraphs(), 1);
        Check.equal("one with a mark", Samples.text("5,6/").paragraphs(), 1);
        Check.equal("a break ends none", Samples.text("5!,6").paragraphs(), 1);
        Check.equal("several", Samples.text("5/,6/,7,8/,9").paragraphs(), 4);
        RaggedColumns full = Samples.paragraphsOf(6, 1, 1, 1, 1, 1, 1, 1, 1, 1, 1, 1, 1, 1, 1, 1, 1, 1, 1, 1,
                1, 1, 1, 1, 1, 1, 1, 1, 1, 1, 1, 1, 1, 1, 1, 1, 1, 1, 1, 1, 1);
        Check.equal("40 paragraphs", full.paragraphs(), 40);
    }

    private static void promise20Stairs() {
        Check.equal("stairs of none", new RaggedColumns().stairs(), 0);
        Check.equal("two stairs", Samples.text("5!,10!,15!,20!,30").stairs(), 2);
        Check.equal("up and down", Samples.text("30!,27!,24!,27!,30!,27!,29!,30").stairs(), 2);
        Check.equal("not with the last line", Samples.text("5!,10!,15").stairs(), 0);
        Check.equal("in several paragraphs", Samples.text("5!,9!,15!,2/,30!,20!,10!,1").stairs(), 2);
    }

    /** The answers that need lines or pages are asked first behind a change, each for itself. */
    private static void promise20StairsBehindChanges() {
        RaggedColumns x = Samples.text("30!,20!,10!,1");
        Check.equal("stairs behind load", x.stairs(), 1);
        x.setPenalties(11, 1, 1);
        Check.equal("stairs behind a change", x.stairs(), 0);
        x.undo();
        Check.equal("stairs behind undo", x.stairs(), 1);
    }

    private static void promise21Cost() {
        Check.equal("cost of none", new RaggedColumns().cost(), 0);
        Check.equal("one line costs nothing", Samples.text("1").cost(), 0);
        Check.equal("a last line is short below a quarter", Samples.text("30!,14").cost(), 900 + 300);
        Check.equal("a last line of a quarter", Samples.text("30!,15").cost(), 900);
        Check.equal("each paragraph for itself",
                Samples.text("30!,14/,1/,20!,1").cost(), 1200 + 1600 + 300);
        Check.equal("two stairs", Samples.text("5!,10!,15!,20!,30").cost(),
                55 * 55 + 50 * 50 + 45 * 45 + 40 * 40 + 2 * 500);
        RaggedColumns x = Samples.text("10,10,10,10,10,10");
        Check.equal("optimal", x.cost(), 14 * 14);
        x.setOptimal(false);
        Check.equal("greedy", x.cost(), 2 * 2 + 300);
        RaggedColumns dear = Samples.fullText(1);
        for (int word = 0; word < 20; word++) {
            dear.setMark(word, 1);
        }
        dear.setColumn(100);
        dear.setPenalties(20, 9999, 9999);
        Check.equal("wide columns", dear.cost(), 20 * 99 * 99);
        // With a stair of 29, 25, 21, 17 the lines have less slack than without it.
        RaggedColumns stair = Samples.text(30, 1, "14,14,12,12,10,10,8,8,30,5");
        Check.equal("rather slack than a stair", Samples.lineWidths(stair), "[14, 27, 23, 28, 30, 5]");
        stair.setPenalties(3, 0, 0);
        Check.equal("rather a stair than slack", Samples.lineWidths(stair), "[29, 25, 21, 17, 30, 5]");
    }

    private static void promise21CostAmongEqualLayouts() {
        // Five lines of 23, 21, 25, 28 with a stair, or six of 26, 18, 16, 7, 28: both cost 889.
        RaggedColumns lines = Samples.text(30, 2, "23,1,10,6,16,7,28,15");
        lines.setPenalties(3, 730, 0);
        Check.equal("equal costs", lines.cost(), 889);
        Check.equal("the fewest lines", Samples.lineWidths(lines), "[23, 21, 25, 28, 15]");
        // A slack of 10 in the first line, or none and a short last line: both cost 100.
        RaggedColumns first = Samples.text(40, 1, "30,9,3");
        first.setPenalties(3, 500, 100);
        Check.equal("most words in the first line", Samples.lineWidths(first), "[40, 3]");
        first.setPenalties(3, 500, 101);
        Check.equal("a cost more decides", Samples.lineWidths(first), "[30, 13]");
        RaggedColumns second = Samples.text(40, 2, "10!,30,8,7");
        second.setPenalties(3, 500, 100);
        Check.equal("most words in the second line", Samples.lineWidths(second), "[10, 40, 7]");
    }

    private static void promise22Pages() {
        Check.equal("pages of none", new RaggedColumns().pages(), 0);
        Check.equal("a page for one line", Samples.text("1").pages(), 1);
        Check.equal("a full page", Samples.paragraphsOf(6, 6).pages(), 1);
        Check.equal("a line more", Samples.paragraphsOf(6, 7).pages(), 2);
        Check.equal("40 lines by 2", Samples.paragraphsOf(2, 40).pages(), 20);
        Check.equal("39 lines by 2", Samples.paragraphsOf(2, 39).pages(), 20);
        Check.equal("40 lines by 20", Samples.paragraphsOf(20, 40).pages(), 2);
    }

    private static void promise23PageOf() {
        RaggedColumns x = Samples.paragraphsOf(3, 7);
        Check.equal("pages of lines", Samples.list(7, x::pageOf), "[0, 0, 0, 1, 1, 2, 2]");
        refused(x, "pageOf(7)", INDEX, () -> x.pageOf(7));
        for (int line : FAR) {
            refused(x, "pageOf far", INDEX, () -> x.pageOf(line));
        }
        refused(new RaggedColumns(), "of none", INDEX, () -> new RaggedColumns().pageOf(0));
    }

    private static void promise24LinesOn() {
        Check.equal("no last line alone ahead",
                Samples.pageLengths(Samples.paragraphsOf(3, 7)), "[3, 2, 2]");
        Check.equal("no first line alone behind",
                Samples.pageLengths(Samples.paragraphsOf(3, 2, 3)), "[2, 3]");
        Check.equal("one less only once", Samples.pageLengths(Samples.paragraphsOf(2, 3, 2)), "[1, 2, 2]");
        Check.equal("one less only once, for two reasons",
                Samples.pageLengths(Samples.paragraphsOf(2, 1, 2, 1)),
                "[1, 2, 1]");
        Check.equal("single lines may stand anywhere",
                Samples.pageLengths(Samples.paragraphsOf(2, 1, 1, 1, 1, 1)),
                "[2, 2, 1]");
        Check.equal("no line less if none is left",
                Samples.pageLengths(Samples.paragraphsOf(4, 3, 1)), "[4]");
        Check.equal("none less ahead of the end",
                Samples.pageLengths(Samples.paragraphsOf(4, 2, 2, 2)), "[4, 2]");
        RaggedColumns x = Samples.paragraphsOf(3, 7);
        refused(x, "linesOn(3)", INDEX, () -> x.linesOn(3));
        for (int page : FAR) {
            refused(x, "linesOn far", INDEX, () -> x.linesOn(page));
        }
        refused(new RaggedColumns(), "of none", INDEX, () -> new RaggedColumns().linesOn(0));
    }

    private static void promise25Widows() {
        // By the words on pages none can come about: a page one line shorter moves a line behind.
        Check.equal("widows of none", new RaggedColumns().widows(), 0);
        Check.equal("a single line is no widow", Samples.paragraphsOf(2, 1, 1, 1, 1).widows(), 0);
        Check.equal("the first page has none", Samples.paragraphsOf(2, 3, 3, 1, 2).widows(), 0);
        for (int size = 2; size < 20; size++) {
            Check.equal("widows",
                    Samples.paragraphsOf(size, 2, 3, 1, 3, 3, 2, 7, 3, 2, 1, 4, 3).widows(), 0);
        }
    }

    private static void promise26Orphans() {
        Check.equal("orphans of none", new RaggedColumns().orphans(), 0);
        Check.equal("an orphan", Samples.paragraphsOf(2, 3).orphans(), 1);
        Check.equal("two orphans", Samples.paragraphsOf(2, 3, 3, 1).orphans(), 2);
        Check.equal("a single line is no orphan", Samples.paragraphsOf(2, 1, 1, 1, 1).orphans(), 0);
        Check.equal("the last page has none", Samples.paragraphsOf(2, 1, 1).orphans(), 0);
        RaggedColumns x = Samples.paragraphsOf(2, 3);
        x.remove(0);
        Check.equal("orphans behind a change", x.orphans(), 0);
        x.undo();
        Check.equal("orphans behind undo", x.orphans(), 1);
        Check.equal("none with larger pages", Samples.paragraphsOf(3, 3, 3, 1).orphans(), 0);
    }

    private static void promise27CostFor() {
        RaggedColumns x = Samples.text("10,10,10,10,10,10");
        Check.equal("costFor(60, true)", x.costFor(60, true), 196);
        Check.equal("costFor(60, false)", x.costFor(60, false), 304);
        Check.equal("costFor(30, true)", x.costFor(30, true), 64 + 64);
        Check.equal("costFor(70, false)", x.costFor(70, false), 0);
        Check.equal("costFor(69, false)", x.costFor(69, false), 11 * 11 + 300);
        x.setOptimal(false);
        Check.equal("whatever the mode is", x.costFor(60, true), 196);
        Check.equal("costFor(100, true)", x.costFor(100, true), 0);
        String before = view(x);
        x.costFor(40, true);
        Check.equal("costFor changes nothing", view(x), before);
        Check.equal("the column stays", x.setColumn(60), 60);
        for (int width : new int[] {29, 101, 0, -1, Integer.MIN_VALUE, Integer.MAX_VALUE}) {
            refused(x, "costFor(" + width + ")", ARGUMENT, () -> x.costFor(width, true));
        }
        Check.equal("costFor of none", new RaggedColumns().costFor(30, false), 0);
    }

    private static void promise28BestColumn() {
        RaggedColumns x = Samples.text("10,10,10,10,10,10");
        Check.equal("the least of several", x.bestColumn(30, 100), 34);
        Check.equal("one width", x.bestColumn(60, 60), 60);
        Check.equal("the greatest width", x.bestColumn(100, 100), 100);
        Check.equal("the least width", x.bestColumn(30, 30), 30);
        Check.equal("up to the best", x.bestColumn(65, 70), 70);
        Check.equal("without the best", x.bestColumn(59, 69), 59);
        x.setOptimal(false);
        Check.equal("optimal layouts in every mode", x.bestColumn(58, 61), 58);
        String before = view(x);
        x.bestColumn(30, 100);
        Check.equal("bestColumn changes nothing", view(x), before);
        int[][] wrong = {{29, 40}, {101, 101}, {30, 101}, {61, 60}, {100, 99}, {30, 29},
            {Integer.MIN_VALUE, 50}, {50, Integer.MAX_VALUE}, {50, Integer.MIN_VALUE}};
        for (int[] a : wrong) {
            refused(x, "bestColumn" + Arrays.toString(a), ARGUMENT, () -> x.bestColumn(a[0], a[1]));
        }
        // Four words of 27, 22, 30 and 22 cost 441 in columns of 38 and 51, and more between.
        Check.equal("the least of two that cost something",
                Samples.text("27,22,30,22").bestColumn(38, 51), 38);
        Check.equal("bestColumn of none", new RaggedColumns().bestColumn(45, 77), 45);
    }

    private static void promise29Saving() {
        RaggedColumns x = Samples.text("10,10,10,10,10,10");
        Check.equal("saving", x.saving(), 304 - 196);
        x.setOptimal(false);
        Check.equal("saving in greedy mode", x.saving(), 304 - 196);
        Check.equal("the mode stays", x.setOptimal(true), false);
        Check.equal("saving of all paragraphs",
                Samples.text("10,10,10,10,10,10/,10,10,10,10,10,10").saving(), 2 * (304 - 196));
        Check.equal("no saving", Samples.text("30!,30").saving(), 0);
        Check.equal("saving of none", new RaggedColumns().saving(), 0);
    }

    private static void promise30CostIfMarked() {
        RaggedColumns x = Samples.text("10,10,10,10,10,10");
        Check.equal("as it is", x.costIfMarked(0, 0), 196);
        Check.equal("a break", x.costIfMarked(0, 1), 50 * 50);
        Check.equal("a paragraph's end", x.costIfMarked(0, 2), 0);
        Check.equal("at the last word", x.costIfMarked(5, 2), 196);
        x.setOptimal(false);
        Check.equal("in greedy mode", x.costIfMarked(5, 1), 304);
        Check.equal("a paragraph in greedy mode", x.costIfMarked(3, 2), 0);
        x.setMark(0, 2);
        Check.equal("a mark less", x.costIfMarked(0, 0), 304);
        Check.equal("costIfMarked changes nothing", Samples.marks(x), "[2, 0, 0, 0, 0, 0]");
        Check.equal("the cost stays", x.cost(), 0);
        refused(x, "costIfMarked(6, 3)", INDEX, () -> x.costIfMarked(6, 3));
        refused(x, "costIfMarked(-1, 0)", INDEX, () -> x.costIfMarked(-1, 0));
        refused(x, "costIfMarked(0, 3)", ARGUMENT, () -> x.costIfMarked(0, 3));
        refused(x, "costIfMarked(5, -1)", ARGUMENT, () -> x.costIfMarked(5, -1));
    }

    private static void promise31Append() {
        RaggedColumns x = new RaggedColumns();
        Check.equal("append(33)", x.append(33), 1);
        Check.equal("append(126)", x.append(126), 2);
        for (int code : new int[] {32, 127, 0, -49, Integer.MIN_VALUE, Integer.MAX_VALUE}) {
            refused(x, "append(" + code + ")", ARGUMENT, () -> x.append(code));
        }
        Check.equal("append saves no state", x.savedStates(), 0);
        for (int length = 3; length <= 60; length++) {
            Check.equal("append up to 60", x.append('5'), length);
        }
        refused(x, "append to 60 characters", STATE, () -> x.append('5'));
        refused(x, "append(32) to 60 characters", ARGUMENT, () -> x.append(32));
        Check.equal("60 characters", x.clearText(), 60);
        Check.equal("room again", x.append('5'), 1);
    }

    private static void promise32ClearText() {
        RaggedColumns x = Samples.typed("5,6");
        Check.equal("clearText", x.clearText(), 3);
        Check.equal("clearText again", x.clearText(), 0);
        Check.equal("clearText saves no state", x.savedStates(), 0);
        refused(x, "load of a cleared buffer", ARGUMENT, x::load);
        Samples.type(x, "7/");
        x.load();
        Check.equal("nothing of before", Samples.widths(x) + Samples.marks(x), "[7][2]");
        Samples.type(x, "8");
        x.undo();
        Check.equal("undo leaves the buffer", x.clearText(), 1);
    }

    private static void promise33FirstError() {
        Check.equal("of an empty buffer", new RaggedColumns().firstError(), 0);
        String longest = "1,".repeat(30);
        String[] right = {"1", "2", "3", "9", "10", "19", "20", "29", "30", "5,", "5!", "5/", "5!,",
            "5/,", "12!,30/,1", longest};
        for (String buffer : right) {
            Check.equal("no error in " + buffer, Samples.typed(buffer).firstError(), buffer.length());
        }
        Object[][] wrong = {{"0", 0}, {",", 0}, {"!", 0}, {"/", 0}, {"x", 0}, {"05", 0}, {"31", 1},
            {"39", 1}, {"40", 1}, {"99", 1}, {"100", 2}, {"300", 2}, {"5!!", 2}, {"5//", 2},
            {"5!/", 2}, {"5!5", 2}, {"5/5", 2}, {"5,,", 2}, {"5,0", 2}, {"5,!", 2}, {"5,/", 2},
            {"5-", 1}, {"5.", 1}, {"5:", 1}, {"5,31,x", 3}, {"x5,6", 0}, {"~", 0}, {"5!,6\"", 4},
            {longest.substring(0, 59) + "x", 59}};
        for (Object[] row : wrong) {
            Check.equal("the error in " + row[0], Samples.typed((String) row[0]).firstError(), row[1]);
        }
        RaggedColumns x = Samples.typed("5,6!,7/");
        x.firstError();
        Check.equal("firstError changes nothing", x.clearText(), 7);
    }

    private static void promise34Load() {
        RaggedColumns x = Samples.typed("5!,17/,30,1");
        Check.equal("load", x.load(), 4);
        Check.equal("widths", Samples.widths(x), "[5, 17, 30, 1]");
        Check.equal("marks", Samples.marks(x), "[1, 2, 0, 0]");
        Check.equal("load saves one state", x.savedStates(), 1);
        Check.equal("load empties the buffer", x.clearText(), 0);
        Samples.type(x, "9/");
        Check.equal("load behind", x.load(), 5);
        Check.equal("the last word", x.wordWidth(4) + " " + x.mark(4), "9 2");
        refused(x, "load of nothing", ARGUMENT, x::load);
        for (String buffer : new String[] {"5,", "0", "31", "5!!", "5,,6", "x", ",5", "5!,"}) {
            RaggedColumns y = Samples.typed(buffer);
            refused(y, "load of " + buffer, ARGUMENT, y::load);
            Check.equal("the buffer stays", y.clearText(), buffer.length());
        }
        promise34LoadUpToFortyWords();
        undoable("load", Samples.typed("5!,17/"), y -> y.load() + y.append('5') + y.append('!')
                + y.append(',') + y.append('1') + y.append('7') + y.append('/'));
    }

    private static void promise34LoadUpToFortyWords() {
        String thirty = "1,".repeat(29) + "1";
        RaggedColumns x = Samples.typed(thirty);
        Check.equal("load of 30 words", x.load(), 30);
        Samples.type(x, thirty.substring(0, 21));
        refused(x, "load of 11 words more", STATE, x::load);
        Check.equal("the buffer stays", x.clearText(), 21);
        Samples.type(x, thirty.substring(0, 19));
        Check.equal("load of 10 words more", x.load(), 40);
        Samples.type(x, "1,");
        refused(x, "load of a wrong text when full", ARGUMENT, x::load);
        Samples.type(x, "1");
        refused(x, "load when full", STATE, x::load);
    }

    private static void promise35Undo() {
        RaggedColumns x = new RaggedColumns();
        refused(x, "undo of nothing", STATE, x::undo);
        List<String> views = new ArrayList<>();
        for (int word = 0; word < 7; word++) {
            views.add(x.digest() + " " + x.costFor(30, true));
            x.insert(word, 20 + word);
        }
        for (int left = 5; left >= 0; left--) {
            Check.equal("undo", x.undo(), left);
            Check.equal("the state of before", x.digest() + " " + x.costFor(30, true),
                    views.get(left + 1));
        }
        refused(x, "undo of the oldest that was discarded", STATE, x::undo);
        Check.equal("what stays", Samples.widths(x), "[20]");
        Check.equal("a change behind undo", x.insert(0, 9) + x.savedStates(), 3);
        promise35UndoSettings();
    }

    private static void promise35UndoSettings() {
        RaggedColumns x = new RaggedColumns();
        x.setColumn(31);
        x.setSpace(4);
        x.setPenalties(5, 6, 7);
        x.setPage(8);
        x.setOptimal(false);
        for (int i = 0; i < 5; i++) {
            x.undo();
        }
        x.setPenalties(3, 500, 300);
        Check.equal("the settings of before", x.setColumn(60) + " " + x.setSpace(2) + " "
                + x.setPage(6) + " " + x.setOptimal(true), "60 2 6 true");
        RaggedColumns y = Samples.text("30!,20!,10!,14");
        y.setPenalties(20, 1, 1);
        y.undo();
        Check.equal("the penalties of before", y.cost(), 5000 + 500 + 300);
    }

    private static void promise36SavedStates() {
        RaggedColumns x = new RaggedColumns();
        for (int i = 0; i < 9; i++) {
            Check.equal("savedStates", x.savedStates(), Math.min(i, 6));
            x.setPage(2 + i);
        }
        x.undo();
        Check.equal("savedStates behind undo", x.savedStates(), 5);
        x.setPage(2);
        x.setPage(2);
        Check.equal("a seventh state", x.savedStates(), 6);
        RaggedColumns y = Samples.text("5,6");
        Check.answer(() -> y.insert(9, 1));
        Check.answer(() -> y.remove(9));
        Check.answer(() -> y.setMark(0, 3));
        Check.answer(() -> y.setColumn(29));
        Check.answer(y::load);
        y.costFor(50, true);
        y.digest();
        Check.equal("only changes save", y.savedStates(), 1);
    }

    private static void promise37Digest() {
        long empty = 8096;
        for (int i = 0; i < 9; i++) {
            empty = 31 * empty;
        }
        Check.equal("digest of none", new RaggedColumns().digest(), empty);
        RaggedColumns x = Samples.text("30!,20!,10!,14/,10,10,10,10,10,10/,5");
        Check.equal("digest", x.digest(), digestOf(x));
        x.setPage(2);
        Check.equal("digest of small pages", x.digest(), digestOf(x));
        x.setOptimal(false);
        Check.equal("digest in greedy mode", x.digest(), digestOf(x));
    }

    private static long digestOf(RaggedColumns x) {
        int[] numbers = {x.words(), x.lines(), x.paragraphs(), x.stairs(), x.cost(), x.pages(),
            x.widows(), x.orphans(), x.saving()};
        long hash = 8096;
        for (int number : numbers) {
            hash = 31 * hash + number;
        }
        for (int word = 0; word < x.words(); word++) {
            hash = 31 * hash + x.wordWidth(word);
            hash = 31 * hash + x.mark(word);
            hash = 31 * hash + x.lineOf(word);
            hash = 31 * hash + x.reason(word);
        }
        for (int line = 0; line < x.lines(); line++) {
            hash = 31 * hash + x.lineWidth(line);
            hash = 31 * hash + x.pageOf(line);
        }
        return hash;
    }
}

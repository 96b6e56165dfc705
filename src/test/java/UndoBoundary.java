import java.util.ArrayList;
import java.util.List;

/** Boundary cases of the promises 35 to 37, and of what the terms say of undo and exceptions. */
final class UndoBoundary {
    /** A call that is marked undoable, for texts of 1 word and more with the buffer "7/,8". */
    private record Change(String name, Twins.Call call) {
    }

    private static final List<Change> CHANGES = List.of(
            new Change("Promise 2, insert", x -> x.insert(1, 9)),
            new Change("Promise 3, remove", x -> x.remove(0)),
            new Change("Promise 4, setMark", x -> x.setMark(0, 2)),
            new Change("Promise 8, setColumn", x -> x.setColumn(31)),
            new Change("Promise 9, setSpace", x -> x.setSpace(4)),
            new Change("Promise 10, setPenalties", x -> x.setPenalties(7, 8, 9)),
            new Change("Promise 11, setPage", x -> x.setPage(19)),
            new Change("Promise 12, setOptimal", x -> x.setOptimal(false)),
            new Change("Promise 34, load", UndoBoundary::loadAndTypeAgain));

    private static final List<Change> REPEATS = List.of(
            new Change("Promise 4, setMark to 0 as before", x -> x.setMark(0, 0)),
            new Change("Promise 8, setColumn to 60 as before", x -> x.setColumn(60)),
            new Change("Promise 9, setSpace to 2 as before", x -> x.setSpace(2)),
            new Change("Promise 10, setPenalties as before", x -> x.setPenalties(3, 500, 300)),
            new Change("Promise 11, setPage to 6 as before", x -> x.setPage(6)),
            new Change("Promise 12, setOptimal to true as before", x -> x.setOptimal(true)));

    private UndoBoundary() {
    }

    static void run() {
        for (Change change : CHANGES) {
            undoable(change);
        }
        for (Change change : REPEATS) {
            undoable(change);
        }
        unsaved();
        promise35Undo();
        promise35UndoOfEach();
        promise35UndoLeaves();
        promise35UndoPastRefused();
        promise36SavedStates();
        promise37Digest();
        promise37DigestOfText();
        promise37DigestUnchanged();
    }

    /** So many words of widths 1, 2, 3 and so on, each of which has saved a state. */
    private static RaggedColumns saved(int states) {
        RaggedColumns x = new RaggedColumns();
        for (int word = 0; word < states; word++) {
            x.insert(word, word + 1);
        }
        Samples.type(x, "7/,8");
        return x;
    }

    /** Undo does not bring the buffer back that load empties. */
    private static int loadAndTypeAgain(RaggedColumns x) {
        int words = x.load();
        Samples.type(x, "7/,8");
        return words;
    }

    private static void undoable(Change change) {
        for (int states = 1; states <= 5; states++) {
            int before = states;
            Check.test(change.name + " saves a state behind " + states + ", and undo brings it back",
                    () -> Twins.undone(() -> saved(before), change.call));
        }
        for (int states = 6; states <= 7; states++) {
            int before = states;
            String name = change.name + " saves a state instead of the oldest one, behind " + states;
            Check.test(name, () -> {
                RaggedColumns x = saved(before);
                long digest = x.digest();
                change.call.on(x);
                Check.equal("savedStates", x.savedStates(), 6);
                Check.equal("undo", x.undo(), 5);
                Check.equal("digest", x.digest(), digest);
                for (int left = 4; left >= 0; left--) {
                    Check.equal("undo", x.undo(), left);
                }
                Check.equal("the words that stay", x.words(), before - 5);
                Check.equal("undo of none", Check.answer(x::undo), Twins.STATE);
            });
        }
    }

    private static void unsaved() {
        List<Change> calls = List.of(new Change("Promise 31, append", x -> x.append('9')),
                new Change("Promise 32, clearText", RaggedColumns::clearText),
                new Change("Promise 33, firstError", RaggedColumns::firstError),
                new Change("Promise 27, costFor", x -> x.costFor(44, false)),
                new Change("Promise 28, bestColumn", x -> x.bestColumn(44, 66)),
                new Change("Promise 29, saving", RaggedColumns::saving),
                new Change("Promise 30, costIfMarked", x -> x.costIfMarked(0, 2)),
                new Change("Promise 36, savedStates", RaggedColumns::savedStates),
                new Change("Promise 37, digest", RaggedColumns::digest));
        for (Change call : calls) {
            Check.test(call.name + " saves no state behind none, three, six and seven changes", () -> {
                for (int changes : new int[] {1, 3, 6, 7}) {
                    RaggedColumns x = saved(changes);
                    long digest = x.digest();
                    call.call.on(x);
                    Check.equal("savedStates", x.savedStates(), Math.min(changes, 6));
                    Check.equal("digest", x.digest(), digest);
                    x.undo();
                    Check.equal("words behind undo", x.words(), changes - 1);
                }
            });
        }
    }

    private static void promise35Undo() {
        String p = "Promise 35, undo: ";
        Check.test(p + "no saved state in a new object",
                () -> Twins.refused(RaggedColumns::new, Twins.STATE, RaggedColumns::undo));
        Check.test(p + "no saved state behind the undo of the only one", () -> Twins.refused(() -> {
            RaggedColumns x = saved(1);
            x.undo();
            return x;
        }, Twins.STATE, RaggedColumns::undo));
        Check.test(p + "no saved state behind the undo of six", () -> Twins.refused(() -> {
            RaggedColumns x = saved(8);
            for (int i = 0; i < 6; i++) {
                x.undo();
            }
            return x;
        }, Twins.STATE, RaggedColumns::undo));
        Check.test(p + "the first saved state", () -> {
            RaggedColumns x = saved(1);
            Check.equal("undo", x.undo(), 0);
            Check.equal("words", x.words(), 0);
        });
        Check.test(p + "six saved states, one by one", () -> {
            RaggedColumns x = saved(6);
            for (int left = 5; left >= 0; left--) {
                Check.equal("undo", x.undo(), left);
                Check.equal("words", x.words(), left);
            }
            Check.equal("a seventh undo", Check.answer(x::undo), Twins.STATE);
        });
        Check.test(p + "the seventh state discards the oldest", () -> {
            RaggedColumns x = saved(7);
            for (int left = 5; left >= 0; left--) {
                Check.equal("undo", x.undo(), left);
                Check.equal("words", x.words(), left + 1);
            }
            Check.equal("a seventh undo", Check.answer(x::undo), Twins.STATE);
        });
        Check.test(p + "forty states, of which six are left", () -> {
            RaggedColumns x = Samples.fullText(3);
            for (int left = 5; left >= 0; left--) {
                Check.equal("undo", x.undo(), left);
            }
            Check.equal("a seventh undo", Check.answer(x::undo), Twins.STATE);
            Check.equal("words", x.words(), 34);
        });
        Check.test(p + "a change behind undo takes the place of the undone one", () -> {
            RaggedColumns x = saved(6);
            x.undo();
            x.undo();
            x.insert(0, 30);
            Check.equal("savedStates", x.savedStates(), 5);
            Check.equal("undo", x.undo(), 4);
            Check.equal("widths", Samples.widths(x), "[1, 2, 3, 4]");
            Check.equal("undo", x.undo(), 3);
            Check.equal("widths", Samples.widths(x), "[1, 2, 3]");
        });
    }

    private static void promise35UndoOfEach() {
        String p = "Promise 35, undo brings back ";
        Check.test(p + "the words and marks",
                () -> Twins.undone(Samples::small, x -> x.remove(2)));
        Check.test(p + "the column", () -> {
            RaggedColumns x = new RaggedColumns();
            x.setColumn(99);
            x.undo();
            Check.equal("previous", x.setColumn(30), 60);
        });
        Check.test(p + "the space", () -> {
            RaggedColumns x = new RaggedColumns();
            x.setSpace(5);
            x.undo();
            Check.equal("previous", x.setSpace(1), 2);
        });
        Check.test(p + "the step", () -> {
            RaggedColumns x = new RaggedColumns();
            x.setPenalties(20, 500, 300);
            x.undo();
            Check.equal("previous", x.setPenalties(1, 1, 1), 3);
        });
        Check.test(p + "the stair penalty", () -> {
            RaggedColumns x = Samples.text("30!,20!,10!,30");
            x.setPenalties(3, 9999, 300);
            x.undo();
            Check.equal("cost", x.cost(), 5000 + 500);
        });
        Check.test(p + "the short penalty", () -> {
            RaggedColumns x = Samples.text("30!,14");
            x.setPenalties(3, 500, 9999);
            x.undo();
            Check.equal("cost", x.cost(), 900 + 300);
        });
        Check.test(p + "the size of a page", () -> {
            RaggedColumns x = new RaggedColumns();
            x.setPage(20);
            x.undo();
            Check.equal("previous", x.setPage(2), 6);
        });
        Check.test(p + "the mode", () -> {
            RaggedColumns x = new RaggedColumns();
            x.setOptimal(false);
            x.undo();
            Check.equal("previous", x.setOptimal(true), true);
        });
        Check.test(p + "the empty text behind a load", () -> {
            RaggedColumns x = Samples.text("5,6");
            x.undo();
            Check.equal("digest", x.digest(), new RaggedColumns().digest());
        });
        Check.test(p + "40 words behind a remove", () -> {
            RaggedColumns x = Samples.full();
            long digest = x.digest();
            x.remove(39);
            x.undo();
            Check.equal("words", x.words(), 40);
            Check.equal("digest", x.digest(), digest);
        });
    }

    private static void promise35UndoLeaves() {
        String p = "Promise 35, undo: ";
        Check.test(p + "the buffer of 60 characters stays", () -> {
            RaggedColumns x = Samples.full();
            x.undo();
            Check.equal("clearText", x.clearText(), 60);
        });
        Check.test(p + "the empty buffer stays", () -> {
            RaggedColumns x = Samples.text("5,6");
            x.undo();
            Check.equal("firstError", x.firstError(), 0);
            Check.equal("load", Check.answer(x::load), Twins.ARGUMENT);
        });
        Check.test(p + "characters that were appended behind the change stay", () -> {
            RaggedColumns x = new RaggedColumns();
            x.setColumn(80);
            Samples.type(x, "5,6");
            x.undo();
            Check.equal("load", x.load(), 2);
            Check.equal("widths", Samples.widths(x), "[5, 6]");
        });
        Check.test(p + "it can't be undone itself", () -> {
            RaggedColumns x = saved(3);
            x.undo();
            x.undo();
            Check.equal("savedStates", x.savedStates(), 1);
            Check.equal("widths", Samples.widths(x), "[1]");
        });
        Check.test(p + "a later change leaves the saved states as they were", () -> {
            RaggedColumns x = Samples.text("5!,6,7");
            x.setMark(1, 2);
            x.remove(0);
            x.setMark(1, 1);
            x.undo();
            Check.equal("marks behind one undo", Samples.marks(x), "[2, 0]");
            x.undo();
            Check.equal("marks behind two", Samples.marks(x), "[1, 2, 0]");
            x.undo();
            Check.equal("marks behind three", Samples.marks(x), "[1, 0, 0]");
        });
    }

    private static void promise35UndoPastRefused() {
        Check.test("Terms, exceptions: refused calls save no state, for each that could", () -> {
            List<Twins.Call> refused = List.of(x -> x.insert(-1, 5), x -> x.insert(0, 31),
                    x -> x.insert(40, 30), x -> x.remove(40), x -> x.setMark(40, 0), x -> x.setMark(0, 3),
                    x -> x.setColumn(29), x -> x.setSpace(6), x -> x.setPenalties(1, 10000, 0),
                    x -> x.setPage(1), RaggedColumns::load);
            RaggedColumns x = Samples.full();
            long digest = x.digest();
            for (Twins.Call call : refused) {
                Check.isTrue("it is refused", Check.answer(() -> call.on(x)).startsWith("throws"));
                Check.equal("savedStates", x.savedStates(), 6);
            }
            Check.equal("digest", x.digest(), digest);
            x.undo();
            Check.equal("the undone mode", x.setOptimal(true), true);
        });
    }

    private static void promise36SavedStates() {
        String p = "Promise 36, savedStates: ";
        Check.test(p + "0 in a new object",
                () -> Check.equal("savedStates", new RaggedColumns().savedStates(), 0));
        for (int states = 1; states <= 8; states++) {
            int changes = states;
            Check.test(p + "behind " + states + " changes",
                    () -> Check.equal("savedStates", saved(changes).savedStates(), Math.min(changes, 6)));
        }
        Check.test(p + "6 behind more than 500 changes", () -> {
            RaggedColumns x = new RaggedColumns();
            for (int i = 0; i < 505; i++) {
                x.setColumn(30 + i % 71);
            }
            Check.equal("savedStates", x.savedStates(), 6);
            for (int i = 0; i < 5; i++) {
                x.undo();
            }
            // The last of the 505 widths is that of i = 504, so five undos leave that of i = 499.
            Check.equal("previous", x.setColumn(60), 30 + 499 % 71);
        });
        Check.test(p + "0 behind the undo of all six", () -> {
            RaggedColumns x = saved(6);
            for (int i = 0; i < 6; i++) {
                x.undo();
            }
            Check.equal("savedStates", x.savedStates(), 0);
        });
        Check.test(p + "5 behind an undo, 6 behind a change, 6 behind another", () -> {
            RaggedColumns x = saved(7);
            x.undo();
            Check.equal("behind an undo", x.savedStates(), 5);
            x.setPage(2);
            Check.equal("behind a change", x.savedStates(), 6);
            x.setPage(2);
            Check.equal("behind another", x.savedStates(), 6);
        });
        Check.test(p + "0 behind a refused undo", () -> {
            RaggedColumns x = new RaggedColumns();
            Check.answer(x::undo);
            Check.equal("savedStates", x.savedStates(), 0);
        });
    }

    private static long hash(int... values) {
        long hash = 8096;
        for (int value : values) {
            hash = 31 * hash + value;
        }
        return hash;
    }

    private static void promise37Digest() {
        String p = "Promise 37, digest: ";
        Check.test(p + "of the empty text", () -> Check.equal("digest", new RaggedColumns().digest(),
                hash(0, 0, 0, 0, 0, 0, 0, 0, 0)));
        Check.test(p + "of one word", () -> Check.equal("digest", Samples.text("7").digest(),
                hash(1, 1, 1, 0, 0, 1, 0, 0, 0, 7, 0, 0, 1, 7, 0)));
        Check.test(p + "of one word with a mark", () -> Check.equal("digest", Samples.text("7!").digest(),
                hash(1, 1, 1, 0, 0, 1, 0, 0, 0, 7, 1, 0, 1, 7, 0)));
        Check.test(p + "with a stair and a short last line",
                () -> Check.equal("digest", Samples.text("30!,20!,10!,14/").digest(),
                        hash(4, 4, 1, 1, 5800, 1, 0, 0, 0, 30, 1, 0, 2, 20, 1, 1, 2, 10, 1, 2, 2,
                                14, 2, 3, 1, 30, 0, 20, 0, 10, 0, 14, 0)));
        Check.test(p + "with a saving and the reason 4",
                () -> Check.equal("digest", Samples.text("10,10,10,10,10,10").digest(),
                        hash(6, 2, 1, 0, 196, 1, 0, 0, 108, 10, 0, 0, 0, 10, 0, 0, 0, 10, 0, 0, 0,
                                10, 0, 0, 4, 10, 0, 1, 0, 10, 0, 1, 1, 46, 0, 22, 0)));
        Check.test(p + "with an orphan and two pages",
                () -> Check.equal("digest", Samples.paragraphsOf(2, 3).digest(),
                        hash(3, 3, 1, 0, 1800, 2, 0, 1, 0, 30, 1, 0, 2, 30, 1, 1, 2, 30, 2, 2, 1,
                                30, 0, 30, 1, 30, 1)));
        Check.test(p + "with two paragraphs and the reason 3",
                () -> Check.equal("digest", Samples.text(30, 1, "30,30/,1").digest(),
                        hash(3, 3, 2, 0, 0, 1, 0, 0, 0, 30, 0, 0, 3, 30, 2, 1, 1, 1, 0, 2, 1,
                                30, 0, 30, 0, 1, 0)));
    }

    private static long hashOf(RaggedColumns x) {
        List<Integer> values = new ArrayList<>(List.of(x.words(), x.lines(), x.paragraphs(), x.stairs(),
                x.cost(), x.pages(), x.widows(), x.orphans(), x.saving()));
        for (int word = 0; word < x.words(); word++) {
            values.addAll(List.of(x.wordWidth(word), x.mark(word), x.lineOf(word), x.reason(word)));
        }
        for (int line = 0; line < x.lines(); line++) {
            values.addAll(List.of(x.lineWidth(line), x.pageOf(line)));
        }
        return hash(values.stream().mapToInt(Integer::intValue).toArray());
    }

    private static void promise37DigestOfText() {
        String p = "Promise 37, digest: ";
        Check.test(p + "of 40 words in 40 lines, with overflow", () -> {
            RaggedColumns x = Samples.fullText(30);
            Check.equal("digest", x.digest(), hashOf(x));
        });
        Check.test(p + "of 40 words with marks, in greedy mode", () -> {
            RaggedColumns x = Samples.full();
            Check.equal("digest", x.digest(), hashOf(x));
        });
        Check.test(p + "of 40 words in one line", () -> {
            RaggedColumns x = Samples.fullText(1);
            x.setColumn(100);
            Check.equal("lines", x.lines(), 2);
            x.setSpace(1);
            Check.equal("lines", x.lines(), 1);
            Check.equal("digest", x.digest(), hashOf(x));
        });
        Check.test(p + "behind a change and its undo", () -> {
            RaggedColumns x = Samples.small();
            long digest = x.digest();
            x.setOptimal(false);
            x.remove(0);
            Check.equal("digest", x.digest(), hashOf(x));
            x.undo();
            x.undo();
            Check.equal("digest of before", x.digest(), digest);
        });
    }

    private static void promise37DigestUnchanged() {
        String p = "Promise 37, digest: ";
        Check.test(p + "the buffer and the saved states are no part of it", () -> {
            RaggedColumns x = new RaggedColumns();
            x.setPage(6);
            Samples.type(x, Samples.SIXTY_INCOMPLETE);
            Check.equal("digest", x.digest(), new RaggedColumns().digest());
        });
        Check.test(p + "it changes nothing", () -> {
            Twins.unchanged(RaggedColumns::new, RaggedColumns::digest);
            Twins.unchanged(Samples::small, RaggedColumns::digest);
            Twins.unchanged(Samples::full, RaggedColumns::digest);
        });
        Check.test("Promises 5 to 26: questions change nothing", () -> {
            List<Twins.Call> questions = List.of(RaggedColumns::words, x -> x.wordWidth(0), x -> x.mark(0),
                    RaggedColumns::lines, x -> x.lineOf(0), x -> x.firstWord(0), x -> x.lineWidth(0),
                    x -> x.stairAt(1), x -> x.reason(0), RaggedColumns::paragraphs, RaggedColumns::stairs,
                    RaggedColumns::cost, RaggedColumns::pages, x -> x.pageOf(0), x -> x.linesOn(0),
                    RaggedColumns::widows, RaggedColumns::orphans, RaggedColumns::savedStates);
            for (Twins.Call question : questions) {
                Twins.unchanged(Samples::small, question);
            }
        });
    }
}

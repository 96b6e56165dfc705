/** Boundary cases of the promises 1 to 7: a new object, and its words. */
final class WordsBoundary {
    private WordsBoundary() {
    }

    static void run() {
        promise1NewObject();
        promise2InsertWord();
        promise2InsertWidth();
        promise2InsertFortyWords();
        promise2InsertMarks();
        promise3Remove();
        promise3RemoveMarks();
        promise4SetMark();
        promise4SetMarkRefused();
        promise5Words();
        promise6WordWidth();
        promise7Mark();
    }

    private static void promise1NewObject() {
        String p = "Promise 1, new object: ";
        Check.test(p + "NONE is -1", () -> Check.equal("NONE", RaggedColumns.NONE, -1));
        Check.test(p + "its text is empty", () -> {
            RaggedColumns x = new RaggedColumns();
            Check.equal("words", x.words(), 0);
            Check.equal("lines", x.lines(), 0);
            Check.equal("paragraphs", x.paragraphs(), 0);
            Check.equal("pages", x.pages(), 0);
        });
        Check.test(p + "its buffer is empty",
                () -> Check.equal("clearText", new RaggedColumns().clearText(), 0));
        Check.test(p + "it has no saved state", () -> {
            Check.equal("savedStates", new RaggedColumns().savedStates(), 0);
            Twins.refused(RaggedColumns::new, Twins.STATE, RaggedColumns::undo);
        });
        Check.test(p + "two objects have nothing in common", () -> {
            RaggedColumns x = Samples.small();
            RaggedColumns y = new RaggedColumns();
            Check.equal("words of the second", y.words(), 0);
            Check.equal("its buffer", y.clearText(), 0);
            Check.equal("its saved states", y.savedStates(), 0);
            Check.equal("words of the first", x.words(), 6);
            Check.equal("the first one's buffer", x.clearText(), 4);
        });
    }

    private static void promise2InsertWord() {
        String p = "Promise 2, insert: ";
        Check.test(p + "word 0, the least and the greatest in the empty text", () -> {
            RaggedColumns x = new RaggedColumns();
            Check.equal("insert", x.insert(0, 7), 1);
            Check.equal("widths", Samples.widths(x), "[7]");
        });
        Check.test(p + "word 0, the least, moves all words behind by 1", () -> {
            RaggedColumns x = Samples.text("1,2,3");
            Check.equal("insert", x.insert(0, 7), 4);
            Check.equal("widths", Samples.widths(x), "[7, 1, 2, 3]");
        });
        Check.test(p + "a word between moves only the words behind it by 1", () -> {
            RaggedColumns x = Samples.text("1,2,3");
            Check.equal("insert", x.insert(2, 7), 4);
            Check.equal("widths", Samples.widths(x), "[1, 2, 7, 3]");
        });
        Check.test(p + "word 3 of 3, the greatest, moves no word", () -> {
            RaggedColumns x = Samples.text("1,2,3");
            Check.equal("insert", x.insert(3, 7), 4);
            Check.equal("widths", Samples.widths(x), "[1, 2, 3, 7]");
        });
        Limits.index(p + "in a text of 6 words, word", Samples::small, 7,
                (x, word) -> x.insert(word, 1));
        Limits.index(p + "in the empty text, word", RaggedColumns::new, 1,
                (x, word) -> x.insert(word, 1));
        Limits.index(p + "in a text of 40 words, word", Samples::full, 41,
                (x, word) -> x.insert(word, 1));
        Check.test(p + "undo of an insert ahead of all words",
                () -> Twins.undone(Samples::small, x -> x.insert(0, 30)));
        Check.test(p + "undo of an insert behind all words",
                () -> Twins.undone(Samples::small, x -> x.insert(6, 1)));
        Check.test(p + "undo of an insert into the empty text",
                () -> Twins.undone(RaggedColumns::new, x -> x.insert(0, 1)));
    }

    private static void promise2InsertWidth() {
        String p = "Promise 2, insert: ";
        Check.test(p + "width 1, the least", () -> {
            RaggedColumns x = new RaggedColumns();
            Check.equal("insert", x.insert(0, 1), 1);
            Check.equal("the width", x.wordWidth(0), 1);
        });
        Check.test(p + "width 30, the greatest", () -> {
            RaggedColumns x = new RaggedColumns();
            Check.equal("insert", x.insert(0, 30), 1);
            Check.equal("the width", x.wordWidth(0), 30);
        });
        Limits.argument(p + "width", Samples::small, 1, 30, (x, width) -> x.insert(6, width));
        Limits.argument(p + "into the empty text, width", RaggedColumns::new, 1, 30,
                (x, width) -> x.insert(0, width));
        Check.test(p + "word and width out of range: the word counts",
                () -> Twins.refused(Samples::small, Twins.INDEX, x -> x.insert(7, 31)));
        Check.test(p + "word below 0 and width out of range: the word counts",
                () -> Twins.refused(Samples::small, Twins.INDEX, x -> x.insert(-1, 0)));
    }

    private static void promise2InsertFortyWords() {
        String p = "Promise 2, insert: ";
        Check.test(p + "the fortieth word behind the others, word 39", () -> {
            RaggedColumns x = Samples.wordsOf(39, 5);
            Check.equal("insert", x.insert(39, 7), 40);
            Check.equal("the last word", x.wordWidth(39), 7);
            Check.equal("the word ahead", x.wordWidth(38), 5);
        });
        Check.test(p + "the fortieth word ahead of the others", () -> {
            RaggedColumns x = Samples.wordsOf(38, 5);
            x.insert(38, 9);
            x.setMark(38, 1);
            Check.equal("insert", x.insert(0, 7), 40);
            Check.equal("the first word", x.wordWidth(0), 7);
            Check.equal("the last word", x.wordWidth(39), 9);
            Check.equal("the last mark", x.mark(39), 1);
        });
        for (int word : new int[] {0, 20, 39, 40}) {
            Check.test(p + "a forty-first word is refused, word " + word,
                    () -> Twins.refused(Samples::full, Twins.STATE, x -> x.insert(word, 1)));
        }
        Check.test(p + "40 words and width 31: the width counts",
                () -> Twins.refused(Samples::full, Twins.ARGUMENT, x -> x.insert(40, 31)));
        Check.test(p + "40 words and width 0: the width counts",
                () -> Twins.refused(Samples::full, Twins.ARGUMENT, x -> x.insert(0, 0)));
        Check.test(p + "40 words and word 41: the word counts",
                () -> Twins.refused(Samples::full, Twins.INDEX, x -> x.insert(41, 1)));
        Check.test(p + "40 words, word -1 and width 0: the word counts",
                () -> Twins.refused(Samples::full, Twins.INDEX, x -> x.insert(-1, 0)));
        Check.test(p + "room for a fortieth word behind a remove", () -> {
            RaggedColumns x = Samples.fullText(5);
            x.remove(0);
            Check.equal("insert", x.insert(39, 6), 40);
        });
        Check.test(p + "undo of the fortieth word",
                () -> Twins.undone(WordsBoundary::thirtyNine, x -> x.insert(20, 30)));
    }

    /** 39 words and one saved state. */
    private static RaggedColumns thirtyNine() {
        RaggedColumns x = Samples.fullText(4);
        for (int i = 0; i < 6; i++) {
            x.undo();
        }
        Samples.type(x, "6!,5,4/,3,2");
        x.load();
        return x;
    }

    private static void promise2InsertMarks() {
        String p = "Promise 2, insert: ";
        Check.test(p + "the word has the mark 0 between marked ones", () -> {
            RaggedColumns x = Samples.text("1!,2/,3!");
            x.insert(1, 7);
            Check.equal("marks", Samples.marks(x), "[1, 0, 2, 1]");
        });
        Check.test(p + "the word has the mark 0 ahead of marked ones", () -> {
            RaggedColumns x = Samples.text("1!,2/,3!");
            x.insert(0, 7);
            Check.equal("marks", Samples.marks(x), "[0, 1, 2, 1]");
        });
        Check.test(p + "the word has the mark 0 behind marked ones", () -> {
            RaggedColumns x = Samples.text("1!,2/,3!");
            x.insert(3, 7);
            Check.equal("marks", Samples.marks(x), "[1, 2, 1, 0]");
        });
        Check.test(p + "the word has the mark 0 where a removed word had another", () -> {
            RaggedColumns x = Samples.text("1,2!");
            x.remove(1);
            x.insert(1, 7);
            Check.equal("marks", Samples.marks(x), "[0, 0]");
        });
        Check.test(p + "the word has the mark 0 where an undone word had another", () -> {
            RaggedColumns x = Samples.text("1");
            Samples.type(x, "2/");
            x.load();
            x.undo();
            x.insert(1, 7);
            Check.equal("marks", Samples.marks(x), "[0, 0]");
        });
    }

    private static void promise3Remove() {
        String p = "Promise 3, remove: ";
        Check.test(p + "word 0, the least, moves all words behind by 1", () -> {
            RaggedColumns x = Samples.text("30,2,3");
            Check.equal("remove", x.remove(0), 30);
            Check.equal("widths", Samples.widths(x), "[2, 3]");
        });
        Check.test(p + "a word between moves only the words behind it by 1", () -> {
            RaggedColumns x = Samples.text("4,1,3,2");
            Check.equal("remove", x.remove(1), 1);
            Check.equal("widths", Samples.widths(x), "[4, 3, 2]");
        });
        Check.test(p + "word 2 of 3, the greatest, moves no word", () -> {
            RaggedColumns x = Samples.text("4,1,30");
            Check.equal("remove", x.remove(2), 30);
            Check.equal("widths", Samples.widths(x), "[4, 1]");
        });
        Check.test(p + "the only word leaves the empty text", () -> {
            RaggedColumns x = Samples.text("4/");
            Check.equal("remove", x.remove(0), 4);
            Check.equal("words", x.words(), 0);
            Check.equal("lines", x.lines(), 0);
            Check.equal("pages", x.pages(), 0);
            Check.equal("digest", x.digest(), new RaggedColumns().digest());
        });
        Check.test(p + "word 39 of 40, the greatest of all", () -> {
            RaggedColumns x = Samples.wordsOf(39, 5);
            x.insert(39, 9);
            Check.equal("remove", x.remove(39), 9);
            Check.equal("words", x.words(), 39);
            Check.equal("the last word", x.wordWidth(38), 5);
        });
        Check.test(p + "word 0 of 40", () -> {
            RaggedColumns x = Samples.wordsOf(39, 5);
            x.insert(0, 9);
            x.setMark(39, 2);
            Check.equal("remove", x.remove(0), 9);
            Check.equal("words", x.words(), 39);
            Check.equal("the last mark", x.mark(38), 2);
            Check.equal("the last width", x.wordWidth(38), 5);
        });
        Limits.index(p + "in a text of 6 words, word", Samples::small, 6, RaggedColumns::remove);
        Limits.index(p + "in the empty text, word", RaggedColumns::new, 0, RaggedColumns::remove);
        Limits.index(p + "in a text of 40 words, word", Samples::full, 40, RaggedColumns::remove);
        Check.test(p + "undo of the removal of the first word",
                () -> Twins.undone(Samples::small, x -> x.remove(0)));
        Check.test(p + "undo of the removal of the last word",
                () -> Twins.undone(Samples::small, x -> x.remove(5)));
        Check.test(p + "undo of the removal of the only word",
                () -> Twins.undone(() -> Samples.text("9!"), x -> x.remove(0)));
    }

    private static void promise3RemoveMarks() {
        String p = "Promise 3, remove: ";
        Check.test(p + "marks stay with the words behind and ahead", () -> {
            RaggedColumns x = Samples.text("1!,2,3/,4,5!");
            x.remove(1);
            Check.equal("marks", Samples.marks(x), "[1, 2, 0, 1]");
        });
        Check.test(p + "the mark goes with its word", () -> {
            RaggedColumns x = Samples.text("1!,2,3/,4,5!");
            x.remove(2);
            Check.equal("marks", Samples.marks(x), "[1, 0, 0, 1]");
        });
        Check.test(p + "without its end a paragraph goes on", () -> {
            RaggedColumns x = Samples.text("1,2/,3");
            x.remove(1);
            Check.equal("paragraphs", x.paragraphs(), 1);
            Check.equal("lines", x.lines(), 1);
        });
    }

    private static void promise4SetMark() {
        String p = "Promise 4, setMark: ";
        for (int mark = 0; mark <= 2; mark++) {
            int given = mark;
            Check.test(p + "mark " + mark + " behind each other one", () -> {
                for (int previous = 0; previous <= 2; previous++) {
                    RaggedColumns x = Samples.text("1,2,3");
                    Check.equal("the mark of before", x.setMark(1, previous), 0);
                    Check.equal("the previous mark", x.setMark(1, given), previous);
                    Check.equal("marks", Samples.marks(x), "[0, " + given + ", 0]");
                }
            });
        }
        Check.test(p + "word 0, the least", () -> {
            RaggedColumns x = Samples.text("1/,2!,3");
            Check.equal("setMark", x.setMark(0, 1), 2);
            Check.equal("marks", Samples.marks(x), "[1, 1, 0]");
        });
        Check.test(p + "word 2 of 3, the greatest", () -> {
            RaggedColumns x = Samples.text("1/,2!,3");
            Check.equal("setMark", x.setMark(2, 2), 0);
            Check.equal("marks", Samples.marks(x), "[2, 1, 2]");
        });
        Check.test(p + "word 39 of 40, the greatest of all", () -> {
            RaggedColumns x = Samples.fullText(3);
            Check.equal("setMark", x.setMark(39, 2), 0);
            Check.equal("the mark", x.mark(39), 2);
            Check.equal("the mark ahead", x.mark(38), 0);
        });
        Check.test(p + "it changes no width", () -> {
            RaggedColumns x = Samples.text("1,2,3");
            x.setMark(1, 2);
            Check.equal("widths", Samples.widths(x), "[1, 2, 3]");
        });
    }

    private static void promise4SetMarkRefused() {
        String p = "Promise 4, setMark: ";
        Limits.index(p + "in a text of 6 words, word", Samples::small, 6, (x, word) -> x.setMark(word, 2));
        Limits.index(p + "in the empty text, word", RaggedColumns::new, 0,
                (x, word) -> x.setMark(word, 0));
        Limits.index(p + "in a text of 40 words, word", Samples::full, 40,
                (x, word) -> x.setMark(word, 1));
        Limits.argument(p + "mark", Samples::small, 0, 2, (x, mark) -> x.setMark(5, mark));
        Limits.argument(p + "in a text of 40 words, mark", Samples::full, 0, 2,
                (x, mark) -> x.setMark(39, mark));
        Check.test(p + "word and mark out of range: the word counts",
                () -> Twins.refused(Samples::small, Twins.INDEX, x -> x.setMark(6, 3)));
        Check.test(p + "word below 0 and mark out of range: the word counts",
                () -> Twins.refused(Samples::small, Twins.INDEX, x -> x.setMark(-1, -1)));
        Check.test(p + "undo of a mark of the first word",
                () -> Twins.undone(Samples::small, x -> x.setMark(0, 0)));
        Check.test(p + "undo of a mark of the last word",
                () -> Twins.undone(Samples::small, x -> x.setMark(5, 2)));
    }

    private static void promise5Words() {
        String p = "Promise 5, words: ";
        Check.test(p + "0 in the empty text",
                () -> Check.equal("words", new RaggedColumns().words(), 0));
        Check.test(p + "1", () -> Check.equal("words", Samples.text("1").words(), 1));
        Check.test(p + "40, the greatest number",
                () -> Check.equal("words", Samples.fullText(1).words(), 40));
        Check.test(p + "39 behind a remove from 40", () -> {
            RaggedColumns x = Samples.fullText(1);
            x.remove(3);
            Check.equal("words", x.words(), 39);
        });
    }

    private static void promise6WordWidth() {
        String p = "Promise 6, wordWidth: ";
        Check.test(p + "word 0, the least, with the least width",
                () -> Check.equal("wordWidth", Samples.text("1,30,4").wordWidth(0), 1));
        Check.test(p + "word 2 of 3, the greatest, with the greatest width",
                () -> Check.equal("wordWidth", Samples.text("1,4,30").wordWidth(2), 30));
        Check.test(p + "word 39 of 40, the greatest of all",
                () -> Check.equal("wordWidth", Samples.fullText(17).wordWidth(39), 17));
        Limits.index(p + "in a text of 6 words, word", Samples::small, 6, RaggedColumns::wordWidth);
        Limits.index(p + "in the empty text, word", RaggedColumns::new, 0, RaggedColumns::wordWidth);
        Limits.index(p + "in a text of 40 words, word", Samples::full, 40, RaggedColumns::wordWidth);
        Check.test(p + "the word of a removed one is refused", () -> {
            Twins.refused(() -> {
                RaggedColumns x = Samples.text("1,2");
                x.remove(0);
                return x;
            }, Twins.INDEX, x -> x.wordWidth(1));
        });
    }

    private static void promise7Mark() {
        String p = "Promise 7, mark: ";
        Check.test(p + "word 0, the least, with each mark", () -> {
            Check.equal("none", Samples.text("1,2!").mark(0), 0);
            Check.equal("forced break", Samples.text("1!,2").mark(0), 1);
            Check.equal("end of paragraph", Samples.text("1/,2").mark(0), 2);
        });
        Check.test(p + "word 1 of 2, the greatest, with each mark", () -> {
            Check.equal("none", Samples.text("1!,2").mark(1), 0);
            Check.equal("forced break", Samples.text("1,2!").mark(1), 1);
            Check.equal("end of paragraph", Samples.text("1,2/").mark(1), 2);
        });
        Check.test(p + "word 39 of 40, the greatest of all", () -> {
            RaggedColumns x = Samples.fullText(1);
            x.setMark(39, 1);
            Check.equal("mark", x.mark(39), 1);
        });
        Limits.index(p + "in a text of 6 words, word", Samples::small, 6, RaggedColumns::mark);
        Limits.index(p + "in the empty text, word", RaggedColumns::new, 0, RaggedColumns::mark);
        Limits.index(p + "in a text of 40 words, word", Samples::full, 40, RaggedColumns::mark);
    }
}

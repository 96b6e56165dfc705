/** Boundary cases of the promises 31 to 34, and of what the terms say of the input text. */
final class InputBoundary {
    private static final String DIGITS = "0123456789";

    private InputBoundary() {
    }

    static void run() {
        promise31Append();
        promise31AppendFull();
        promise32ClearText();
        promise33FirstError();
        promise33NextCharacter();
        promise33Widths();
        promise34Load();
        promise34LoadFortyWords();
        promise34LoadRefused();
        promise34LoadLeavesTheBuffer();
        promise34LoadUndoable();
    }

    private static void promise31Append() {
        String p = "Promise 31, append: ";
        Check.test(p + "the first character into the empty buffer",
                () -> Check.equal("append", new RaggedColumns().append('5'), 1));
        Check.test(p + "code 33, the least", () -> {
            RaggedColumns x = Samples.typed("5");
            Check.equal("append", x.append(33), 2);
            x.load();
            Check.equal("the mark of !", x.mark(0), 1);
        });
        Check.test(p + "code 126, the greatest", () -> {
            RaggedColumns x = Samples.typed("5");
            Check.equal("append", x.append(126), 2);
            Check.equal("firstError", x.firstError(), 1);
        });
        Check.test(p + "each code from 33 to 126", () -> {
            for (int code = 33; code <= 126; code++) {
                RaggedColumns x = new RaggedColumns();
                Check.equal("append", x.append(code), 1);
                Check.equal("clearText", x.clearText(), 1);
            }
        });
        Limits.argument(p + "to the empty buffer, code", RaggedColumns::new, 33, 126, RaggedColumns::append);
        Limits.argument(p + "to 4 characters, code", Samples::small, 33, 126, RaggedColumns::append);
        Limits.argument(p + "to 60 characters, code", Samples::full, 33, 126, RaggedColumns::append);
        for (int code : new int[] {32, 10, 9, 127, 200, '5' + 256, '5' + 65536}) {
            Check.test(p + "code " + code + " is no character, though its last bits may be those of one",
                    () -> Twins.refused(Samples::small, Twins.ARGUMENT, x -> x.append(code)));
        }
        Check.test(p + "it saves no state", () -> {
            RaggedColumns x = Samples.typed("5,6");
            Check.equal("savedStates", x.savedStates(), 0);
        });
    }

    private static void promise31AppendFull() {
        String p = "Promise 31, append: ";
        Check.test(p + "the sixtieth character", () -> {
            RaggedColumns x = Samples.typed(Samples.SIXTY_COMPLETE.substring(0, 59));
            Check.equal("append", x.append('1'), 60);
            Check.equal("firstError", x.firstError(), 60);
        });
        Check.test(p + "a sixty-first character",
                () -> Twins.refused(Samples::full, Twins.STATE, x -> x.append('1')));
        Check.test(p + "a sixty-first character, code 33 or 126", () -> {
            Twins.refused(Samples::full, Twins.STATE, x -> x.append(33));
            Twins.refused(Samples::full, Twins.STATE, x -> x.append(126));
        });
        Check.test(p + "60 characters and code 32 or 127: the code counts", () -> {
            Twins.refused(Samples::full, Twins.ARGUMENT, x -> x.append(32));
            Twins.refused(Samples::full, Twins.ARGUMENT, x -> x.append(127));
        });
        Check.test(p + "60 characters with errors are full, too",
                () -> Twins.refused(() -> Samples.typed("~".repeat(60)), Twins.STATE, x -> x.append('1')));
        Check.test(p + "room again behind clearText", () -> {
            RaggedColumns x = Samples.full();
            x.clearText();
            Check.equal("append", x.append('1'), 1);
        });
        Check.test(p + "room again behind load", () -> {
            RaggedColumns x = Samples.typed(Samples.SIXTY_COMPLETE);
            x.load();
            Check.equal("append", x.append('1'), 1);
        });
    }

    private static void promise32ClearText() {
        String p = "Promise 32, clearText: ";
        Check.test(p + "0 of the empty buffer", () -> {
            Check.equal("clearText", new RaggedColumns().clearText(), 0);
            Twins.unchanged(() -> Samples.text("5!,6"), RaggedColumns::clearText);
        });
        Check.test(p + "1 of one character",
                () -> Check.equal("clearText", Samples.typed("5").clearText(), 1));
        Check.test(p + "60 of the full buffer",
                () -> Check.equal("clearText", Samples.full().clearText(), 60));
        Check.test(p + "0 when called again", () -> {
            RaggedColumns x = Samples.full();
            x.clearText();
            Check.equal("clearText", x.clearText(), 0);
            Check.equal("firstError", x.firstError(), 0);
        });
        Check.test(p + "nothing of before counts", () -> {
            RaggedColumns x = Samples.typed("1!,~");
            x.clearText();
            Samples.type(x, "7");
            Check.equal("firstError", x.firstError(), 1);
            Check.equal("load", x.load(), 1);
            Check.equal("the word", x.wordWidth(0) + " " + x.mark(0), "7 0");
        });
        Check.test(p + "it saves no state and changes no word", () -> {
            RaggedColumns x = Samples.small();
            long digest = x.digest();
            x.clearText();
            Check.equal("savedStates", x.savedStates(), 5);
            Check.equal("digest", x.digest(), digest);
        });
        Check.test(p + "undo does not bring the buffer back", () -> {
            RaggedColumns x = Samples.small();
            x.clearText();
            x.undo();
            Check.equal("clearText", x.clearText(), 0);
        });
    }

    private static int errorOf(String characters) {
        return Samples.typed(characters).firstError();
    }

    private static void promise33FirstError() {
        String p = "Promise 33, firstError: ";
        Check.test(p + "0 of the empty buffer", () -> Check.equal("firstError", errorOf(""), 0));
        Check.test(p + "60 of a full buffer without an error, incomplete",
                () -> Check.equal("firstError", errorOf(Samples.SIXTY_INCOMPLETE), 60));
        Check.test(p + "60 of a full buffer without an error, complete",
                () -> Check.equal("firstError", errorOf(Samples.SIXTY_COMPLETE), 60));
        Check.test(p + "0 where the first of 60 characters is one",
                () -> Check.equal("firstError", errorOf("," + Samples.SIXTY_INCOMPLETE.substring(1)), 0));
        Check.test(p + "59 where the last of 60 characters is one",
                () -> Check.equal("firstError", errorOf(Samples.SIXTY_INCOMPLETE.substring(0, 59) + "x"),
                        59));
        Check.test(p + "the first of several",
                () -> Check.equal("firstError", errorOf("5,!,31,x"), 2));
        Check.test(p + "no error in a text that would be too much for 40 words", () -> {
            RaggedColumns x = Samples.fullText(5);
            Samples.type(x, "1,2");
            Check.equal("firstError", x.firstError(), 3);
        });
        Check.test(p + "an incomplete text has no error", () -> {
            Check.equal("behind ,", errorOf("5,"), 2);
            Check.equal("behind !,", errorOf("5!,"), 3);
            Check.equal("behind /,", errorOf("5/,"), 3);
        });
        Check.test(p + "it changes nothing",
                () -> Twins.unchanged(Samples::small, RaggedColumns::firstError));
        Check.test(p + "it changes nothing where there is an error",
                () -> Twins.unchanged(() -> Samples.typed("5,31"), RaggedColumns::firstError));
        Check.test(p + "it changes nothing with a full buffer",
                () -> Twins.unchanged(Samples::full, RaggedColumns::firstError));
        Check.test(p + "an error stays one behind other characters", () -> {
            RaggedColumns x = Samples.typed("5,0");
            Check.equal("firstError", x.firstError(), 2);
            Samples.type(x, ",6");
            Check.equal("firstError", x.firstError(), 2);
        });
    }

    private static void promise33NextCharacter() {
        String[][] rows = {{"", "123456789"}, {"1", DIGITS + ",!/"}, {"2", DIGITS + ",!/"}, {"3", "0,!/"},
            {"4", ",!/"}, {"9", ",!/"}, {"10", ",!/"}, {"19", ",!/"}, {"20", ",!/"}, {"29", ",!/"},
            {"30", ",!/"}, {"1!", ","}, {"1/", ","}, {"30!", ","}, {"30/", ","}, {"1,", "123456789"},
            {"1!,", "123456789"}, {"30/,", "123456789"}, {"1,1", DIGITS + ",!/"}, {"1,3", "0,!/"},
            {"30!,4", ",!/"}, {"1/,30", ",!/"}, {"1,1!", ","}, {"1!,1/", ","}};
        for (String[] row : rows) {
            String name = "behind \"" + row[0] + "\" all but " + row[1] + " are errors";
            Check.test("Promise 33, firstError: " + name, () -> {
                for (char c = 33; c <= 126; c++) {
                    int due = row[1].indexOf(c) >= 0 ? row[0].length() + 1 : row[0].length();
                    Check.equal("firstError with " + c, errorOf(row[0] + c), due);
                }
            });
        }
    }

    private static void promise33Widths() {
        String p = "Promise 33, firstError: ";
        Check.test(p + "each width from 1, the least, to 30, the greatest", () -> {
            for (int width = 1; width <= 30; width++) {
                Check.equal("width " + width, errorOf("" + width), ("" + width).length());
            }
        });
        Check.test(p + "width 0, one below the least", () -> Check.equal("firstError", errorOf("0"), 0));
        Check.test(p + "width 31, one above the greatest",
                () -> Check.equal("firstError", errorOf("31"), 1));
        Check.test(p + "widths 32 to 99", () -> {
            for (int width = 32; width <= 99; width++) {
                Check.equal("width " + width, errorOf("" + width), 1);
            }
        });
        Check.test(p + "widths of three digits", () -> {
            Check.equal("100", errorOf("100"), 2);
            Check.equal("300", errorOf("300"), 2);
            Check.equal("255", errorOf("255"), 2);
        });
        Check.test(p + "a leading zero", () -> {
            Check.equal("01", errorOf("01"), 0);
            Check.equal("5,030", errorOf("5,030"), 2);
        });
    }

    private static void promise34Load() {
        String p = "Promise 34, load: ";
        Check.test(p + "one word, the fewest", () -> {
            RaggedColumns x = Samples.typed("1");
            Check.equal("load", x.load(), 1);
            Check.equal("the word", x.wordWidth(0) + " " + x.mark(0), "1 0");
        });
        Check.test(p + "each width and each mark", () -> {
            for (int width = 1; width <= 30; width++) {
                RaggedColumns x = Samples.text(width + "," + width + "!," + width + "/");
                Check.equal("words", x.words(), 3);
                Check.equal("widths", Samples.widths(x), "[" + width + ", " + width + ", " + width + "]");
                Check.equal("marks", Samples.marks(x), "[0, 1, 2]");
            }
        });
        Check.test(p + "30 words of 60 characters, the most of a buffer", () -> {
            RaggedColumns x = Samples.typed(Samples.SIXTY_COMPLETE);
            Check.equal("load", x.load(), 30);
            Check.equal("the first word", x.wordWidth(0), 10);
            Check.equal("the last word", x.wordWidth(29), 1);
            Check.equal("the buffer", x.clearText(), 0);
        });
        Check.test(p + "20 words of 60 characters, each with a mark", () -> {
            RaggedColumns x = Samples.typed("1!,2/,".repeat(9) + "1!,20/");
            Check.equal("load", x.load(), 20);
            Check.equal("the last word", x.wordWidth(19) + " " + x.mark(19), "20 2");
        });
        Check.test(p + "behind the last word, whose paragraph goes on", () -> {
            RaggedColumns x = Samples.text("5,6");
            Samples.type(x, "7");
            Check.equal("load", x.load(), 3);
            Check.equal("widths", Samples.widths(x), "[5, 6, 7]");
            Check.equal("paragraphs", x.paragraphs(), 1);
        });
        Check.test(p + "behind the last word, whose paragraph ends with the mark 2", () -> {
            RaggedColumns x = Samples.text("5,6/");
            Samples.type(x, "7");
            Check.equal("load", x.load(), 3);
            Check.equal("paragraphs", x.paragraphs(), 2);
        });
        Check.test(p + "again, with nothing of the words of before", () -> {
            RaggedColumns x = Samples.text("5!,6/");
            Samples.type(x, "7,8");
            Check.equal("load", x.load(), 4);
            Check.equal("marks", Samples.marks(x), "[1, 2, 0, 0]");
        });
    }

    /** An object with a text of so many words of width 4. */
    private static RaggedColumns with(int words, String characters) {
        RaggedColumns x = Samples.wordsOf(words, 4);
        Samples.type(x, characters);
        return x;
    }

    private static void promise34LoadFortyWords() {
        String p = "Promise 34, load: ";
        Check.test(p + "a fortieth word", () -> {
            RaggedColumns x = with(39, "9!");
            Check.equal("load", x.load(), 40);
            Check.equal("the word", x.wordWidth(39) + " " + x.mark(39), "9 1");
        });
        Check.test(p + "30 words behind 10", () -> {
            RaggedColumns x = with(10, Samples.SIXTY_COMPLETE);
            Check.equal("load", x.load(), 40);
            Check.equal("the first of them", x.wordWidth(10), 10);
            Check.equal("the last of them", x.wordWidth(39), 1);
        });
        Check.test(p + "a forty-first word, the buffer stays",
                () -> Twins.refused(() -> with(40, "9!"), Twins.STATE, RaggedColumns::load));
        Check.test(p + "a fortieth and a forty-first word, the buffer stays",
                () -> Twins.refused(() -> with(39, "9!,8/"), Twins.STATE, RaggedColumns::load));
        Check.test(p + "30 words behind 11, the buffer stays",
                () -> Twins.refused(() -> with(11, Samples.SIXTY_COMPLETE), Twins.STATE,
                        RaggedColumns::load));
        Check.test(p + "what did not fit fits behind removes", () -> {
            RaggedColumns x = with(40, "9!,8/");
            Check.equal("refused", Check.answer(x::load), Twins.STATE);
            x.remove(0);
            Check.equal("refused still", Check.answer(x::load), Twins.STATE);
            x.remove(0);
            Check.equal("load", x.load(), 40);
            Check.equal("the last words", x.wordWidth(38) + " " + x.wordWidth(39), "9 8");
        });
    }

    private static void promise34LoadRefused() {
        String p = "Promise 34, load: ";
        Check.test(p + "the empty buffer",
                () -> Twins.refused(RaggedColumns::new, Twins.ARGUMENT, RaggedColumns::load));
        Check.test(p + "the empty buffer behind a load",
                () -> Twins.refused(() -> Samples.text("5"), Twins.ARGUMENT, RaggedColumns::load));
        Check.test(p + "the empty buffer with 40 words",
                () -> Twins.refused(() -> with(40, ""), Twins.ARGUMENT, RaggedColumns::load));
        Check.test(p + "60 characters that are not complete",
                () -> Twins.refused(() -> Samples.typed(Samples.SIXTY_INCOMPLETE), Twins.ARGUMENT,
                        RaggedColumns::load));
        Check.test(p + "an incomplete text with 40 words: the text counts",
                () -> Twins.refused(Samples::full, Twins.ARGUMENT, RaggedColumns::load));
        Check.test(p + "an error with 40 words: the error counts",
                () -> Twins.refused(() -> with(40, "5,x"), Twins.ARGUMENT, RaggedColumns::load));
        for (String characters : new String[] {"5,", "5!,", "5/,", "0", "31", "100", "05", ",5", "5,,6", "!",
            "5!!", "5!/", "5/5", "5,!", "5,0", "5,31", "x", "5x", "5,x"}) {
            Check.test(p + "\"" + characters + "\", the buffer stays",
                    () -> Twins.refused(() -> Samples.typed(characters), Twins.ARGUMENT,
                            RaggedColumns::load));
        }
    }

    private static void promise34LoadLeavesTheBuffer() {
        String p = "Promise 34, load: ";
        Check.test(p + "an incomplete text stays and can be completed", () -> {
            RaggedColumns x = Samples.typed("5!,");
            Check.equal("load", Check.answer(x::load), Twins.ARGUMENT);
            Check.equal("append", x.append('6'), 4);
            Check.equal("load", x.load(), 2);
            Check.equal("widths", Samples.widths(x), "[5, 6]");
        });
        Check.test(p + "behind it the buffer is empty", () -> {
            RaggedColumns x = Samples.typed("5!,6");
            x.load();
            Check.equal("firstError", x.firstError(), 0);
            Check.equal("clearText", x.clearText(), 0);
        });
    }

    private static void promise34LoadUndoable() {
        String p = "Promise 34, load: ";
        Check.test(p + "30 words are undone as one call", () -> {
            RaggedColumns x = Samples.text(Samples.SIXTY_COMPLETE);
            Check.equal("savedStates", x.savedStates(), 1);
            Check.equal("undo", x.undo(), 0);
            Check.equal("words", x.words(), 0);
        });
        Check.test(p + "undo does not bring the buffer back", () -> {
            RaggedColumns x = Samples.text("5!,6");
            x.undo();
            Check.equal("clearText", x.clearText(), 0);
        });
        Check.test(p + "undo keeps the words of before", () -> {
            RaggedColumns x = Samples.text("5!,6");
            Samples.type(x, "7/,8");
            x.load();
            x.undo();
            Check.equal("widths", Samples.widths(x), "[5, 6]");
            Check.equal("marks", Samples.marks(x), "[1, 0]");
        });
    }
}

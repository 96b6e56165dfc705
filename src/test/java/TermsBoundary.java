/** Boundary cases of the terms that the promises use: words, paragraphs, lines and cost. */
final class TermsBoundary {
    private TermsBoundary() {
    }

    static void run() {
        words();
        paragraphs();
        lines();
        lineEnds();
        slack();
        shortLastLine();
        stairs();
        stairsByStep();
        greedyLayout();
        optimalLayout();
        equalLayouts();
        optimalLayoutAndStairs();
        optimalLayoutOfFortyWords();
        costOfText();
        calls();
    }

    private static String linesOf(int column, int space, String inputText) {
        return Samples.lineWidths(Samples.text(column, space, inputText));
    }

    private static void words() {
        String p = "Terms, words: ";
        Check.test(p + "40 words, numbered from 0 to 39", () -> {
            RaggedColumns x = new RaggedColumns();
            for (int word = 0; word < 40; word++) {
                Check.equal("insert", x.insert(word, word % 30 + 1), word + 1);
            }
            for (int word = 0; word < 40; word++) {
                Check.equal("width", x.wordWidth(word), word % 30 + 1);
            }
        });
        Check.test(p + "widths 1 and 30 in an input text",
                () -> Check.equal("widths", Samples.widths(Samples.text("1,30,1!,30/")), "[1, 30, 1, 30]"));
        Check.test(p + "marks stay with their words behind an insert and a remove", () -> {
            RaggedColumns x = Samples.text("1!,2,3/");
            x.insert(1, 9);
            Check.equal("marks behind an insert", Samples.marks(x), "[1, 0, 0, 2]");
            x.remove(2);
            Check.equal("marks behind a remove", Samples.marks(x), "[1, 0, 2]");
        });
    }

    private static void paragraphs() {
        String p = "Terms, paragraphs: ";
        Check.test(p + "none without words",
                () -> Check.equal("paragraphs", new RaggedColumns().paragraphs(), 0));
        Check.test(p + "one ends at the last word without a mark",
                () -> Check.equal("paragraphs", Samples.text("5,6").paragraphs(), 1));
        Check.test(p + "one ends at the last word with the mark 1",
                () -> Check.equal("paragraphs", Samples.text("5,6!").paragraphs(), 1));
        Check.test(p + "one ends at the last word with the mark 2, none follows",
                () -> Check.equal("paragraphs", Samples.text("5,6/").paragraphs(), 1));
        Check.test(p + "the mark 1 ends none",
                () -> Check.equal("paragraphs", Samples.text("5!,6!,7").paragraphs(), 1));
        Check.test(p + "the first word alone may be one",
                () -> Check.equal("paragraphs", Samples.text("5/,6,7").paragraphs(), 2));
        Check.test(p + "the last word alone may be one",
                () -> Check.equal("paragraphs", Samples.text("5,6/,7").paragraphs(), 2));
        Check.test(p + "one of 40 words",
                () -> Check.equal("paragraphs", Samples.fullText(9).paragraphs(), 1));
        Check.test(p + "40 of one word", () -> {
            RaggedColumns x = Samples.fullText(9);
            for (int word = 0; word < 39; word++) {
                x.setMark(word, 2);
            }
            Check.equal("without the last mark", x.paragraphs(), 40);
            x.setMark(39, 2);
            Check.equal("with the last mark", x.paragraphs(), 40);
        });
    }

    private static void lines() {
        String p = "Terms, lines: ";
        Check.test(p + "a line as wide as the column fits",
                () -> Check.equal("lines", linesOf(42, 2, "20,20"), "[42]"));
        Check.test(p + "a line wider than the column by 1 does not fit",
                () -> Check.equal("lines", linesOf(41, 2, "20,20"), "[20, 20]"));
        Check.test(p + "the widest word fills the narrowest column",
                () -> Check.equal("lines", linesOf(30, 1, "30,30,1"), "[30, 30, 1]"));
        Check.test(p + "28 and 1 with the narrowest space fill the narrowest column",
                () -> Check.equal("lines", linesOf(30, 1, "28,1"), "[30]"));
        Check.test(p + "29 and 1 do not fit into the narrowest column",
                () -> Check.equal("lines", linesOf(30, 1, "29,1"), "[29, 1]"));
        Check.test(p + "a space stands only between two words of the line",
                () -> Check.equal("lines", linesOf(60, 5, "10,10,10!,10,10!,10"), "[40, 25, 10]"));
        Check.test(p + "40 words in one line that fills the column", () -> {
            RaggedColumns x = Samples.fullText(1);
            x.setSpace(1);
            x.setColumn(79);
            Check.equal("lines", Samples.lineWidths(x), "[79]");
            x.setColumn(100);
            Check.equal("lines in the widest column", Samples.lineWidths(x), "[79]");
        });
        Check.test(p + "40 words in 40 lines", () -> {
            RaggedColumns x = Samples.fullText(30);
            x.setColumn(61);
            Check.equal("lines", x.lines(), 40);
            x.setColumn(62);
            Check.equal("lines with room for two words", x.lines(), 20);
        });
        Check.test(p + "they are numbered from 0 over all paragraphs", () -> {
            RaggedColumns x = Samples.text("1/,2,3!,4/,5");
            Check.equal("lines of the words", Samples.list(5, x::lineOf), "[0, 1, 1, 2, 3]");
        });
    }

    private static void lineEnds() {
        String p = "Terms, lines: ";
        Check.test(p + "one ends behind the mark 1 though the next word would fit",
                () -> Check.equal("lines", linesOf(60, 2, "5!,6"), "[5, 6]"));
        Check.test(p + "one ends behind the mark 2 though the next word would fit",
                () -> Check.equal("lines", linesOf(60, 2, "5/,6"), "[5, 6]"));
        Check.test(p + "the mark 1 at the last word makes no line more",
                () -> Check.equal("lines", linesOf(60, 2, "5,6!"), "[13]"));
        Check.test(p + "the mark 2 at the last word makes no line more",
                () -> Check.equal("lines", linesOf(60, 2, "5,6/"), "[13]"));
        Check.test(p + "none reaches over two paragraphs in greedy mode", () -> {
            RaggedColumns x = Samples.text("5/,6!,7");
            x.setOptimal(false);
            Check.equal("lines", Samples.lineWidths(x), "[5, 6, 7]");
        });
    }

    private static void slack() {
        String p = "Terms, cost: ";
        Check.test(p + "no slack costs nothing",
                () -> Check.equal("cost", Samples.text(30, 1, "30!,30").cost(), 0));
        Check.test(p + "a slack of 1 costs 1",
                () -> Check.equal("cost", Samples.text(31, 1, "30!,30").cost(), 1));
        Check.test(p + "the greatest slack, 99", () -> {
            RaggedColumns x = Samples.text(100, 1, "1!,30");
            Check.equal("cost", x.cost(), 9801);
        });
        Check.test(p + "the slack of the last line costs nothing",
                () -> Check.equal("cost", Samples.text(100, 1, "30!,25").cost(), 4900));
        Check.test(p + "the slack of an only line costs nothing",
                () -> Check.equal("cost", Samples.text(100, 1, "25").cost(), 0));
    }

    private static void shortLastLine() {
        String p = "Terms, cost: short last line: ";
        Check.test(p + "4 times 15 is not less than 60",
                () -> Check.equal("cost", Samples.text(60, 2, "30!,15").cost(), 900));
        Check.test(p + "4 times 14 is less than 60",
                () -> Check.equal("cost", Samples.text(60, 2, "30!,14").cost(), 900 + 300));
        Check.test(p + "4 times 15 is less than 61",
                () -> Check.equal("cost", Samples.text(61, 2, "30!,15").cost(), 961 + 300));
        Check.test(p + "4 times 7 is less than 30, the narrowest column",
                () -> Check.equal("cost", Samples.text(30, 2, "30!,7").cost(), 300));
        Check.test(p + "4 times 8 is not less than 30, the narrowest column",
                () -> Check.equal("cost", Samples.text(30, 2, "30!,8").cost(), 0));
        Check.test(p + "4 times 24 is less than 100, the widest column",
                () -> Check.equal("cost", Samples.text(100, 2, "30!,24").cost(), 4900 + 300));
        Check.test(p + "4 times 25 is not less than 100, the widest column",
                () -> Check.equal("cost", Samples.text(100, 2, "30!,25").cost(), 4900));
        Check.test(p + "the only line is never short",
                () -> Check.equal("cost", Samples.text(100, 2, "1/,1/,1").cost(), 0));
        Check.test(p + "a line that is not the last is never short",
                () -> Check.equal("cost", Samples.text(60, 2, "1!,30").cost(), 59 * 59));
        Check.test(p + "the width of the line counts its spaces",
                () -> Check.equal("cost", Samples.text(60, 5, "30!,5,5").cost(), 900));
    }

    private static int stairsOf(String inputText) {
        return Samples.text(inputText).stairs();
    }

    private static void stairs() {
        String p = "Terms, cost: stair: ";
        Check.test(p + "each line narrower by the step, 3",
                () -> Check.equal("stairs", stairsOf("30!,27!,24!,30"), 1));
        Check.test(p + "the second line narrower by one less than the step",
                () -> Check.equal("stairs", stairsOf("30!,28!,24!,30"), 0));
        Check.test(p + "the third line narrower by one less than the step",
                () -> Check.equal("stairs", stairsOf("30!,27!,25!,30"), 0));
        Check.test(p + "each line wider by the step, 3",
                () -> Check.equal("stairs", stairsOf("24!,27!,30!,30"), 1));
        Check.test(p + "the second line wider by one less than the step",
                () -> Check.equal("stairs", stairsOf("24!,26!,30!,30"), 0));
        Check.test(p + "the third line wider by one less than the step",
                () -> Check.equal("stairs", stairsOf("24!,27!,29!,30"), 0));
        Check.test(p + "not narrower and then wider",
                () -> Check.equal("stairs", stairsOf("30!,24!,30!,30"), 0));
        Check.test(p + "not wider and then narrower",
                () -> Check.equal("stairs", stairsOf("24!,30!,24!,30"), 0));
        Check.test(p + "not with two lines of one width",
                () -> Check.equal("stairs", stairsOf("30!,24!,24!,30"), 0));
        Check.test(p + "the third line is not the last one of the paragraph",
                () -> Check.equal("stairs", stairsOf("30!,20!,10"), 0));
        Check.test(p + "the third line may be the one ahead of the last",
                () -> Check.equal("stairs", stairsOf("30!,20!,10!,1"), 1));
        Check.test(p + "the first line may be the second one of the paragraph",
                () -> Check.equal("stairs", stairsOf("30!,30!,20!,10!,1"), 1));
        Check.test(p + "none over two paragraphs, whichever line is the last",
                () -> Check.equal("stairs", stairsOf("30/,20!,10!,30/,25!,20/,15!,10/,5"), 0));
        Check.test(p + "two of four lines",
                () -> Check.equal("stairs", stairsOf("30!,20!,10!,5!,1"), 2));
        Check.test(p + "36 in one paragraph of 40 lines, up and down by 1", () -> {
            RaggedColumns x = new RaggedColumns();
            for (int word = 0; word < 40; word++) {
                x.insert(word, word < 30 ? word + 1 : 59 - word);
                x.setMark(word, 1);
            }
            x.setPenalties(1, 0, 0);
            Check.equal("stairs", x.stairs(), 36);
        });
    }

    private static int stairsOf(int step, String inputText) {
        RaggedColumns x = Samples.text(inputText);
        x.setOptimal(false);
        x.setPenalties(step, 500, 300);
        return x.stairs();
    }

    private static void stairsByStep() {
        String p = "Terms, cost: stair: ";
        Check.test(p + "step 1, the least: each line narrower by 1",
                () -> Check.equal("stairs", stairsOf(1, "30!,29!,28!,30"), 1));
        Check.test(p + "step 1, the least: each line wider by 1",
                () -> Check.equal("stairs", stairsOf(1, "28!,29!,30!,30"), 1));
        Check.test(p + "step 1, the least: the second line as wide as the first",
                () -> Check.equal("stairs", stairsOf(1, "29!,29!,28!,30"), 0));
        Check.test(p + "step 1, the least: the third line as wide as the second",
                () -> Check.equal("stairs", stairsOf(1, "28!,29!,29!,30"), 0));
        Check.test(p + "step 1, the least: three lines of one width",
                () -> Check.equal("stairs", stairsOf(1, "29!,29!,29!,30"), 0));
        Check.test(p + "step 20, the greatest: each line narrower by 20",
                () -> Check.equal("stairs", stairsOf(20, "30,18!,30!,10!,30"), 1));
        Check.test(p + "step 20, the greatest: each line wider by 20",
                () -> Check.equal("stairs", stairsOf(20, "10!,30!,30,18!,30"), 1));
        Check.test(p + "step 20, the greatest: the second line narrower by 19",
                () -> Check.equal("stairs", stairsOf(20, "30,17!,30!,10!,30"), 0));
        Check.test(p + "step 20, the greatest: the third line narrower by 19",
                () -> Check.equal("stairs", stairsOf(20, "30,18!,30!,11!,30"), 0));
        Check.test(p + "stair penalty 0, the least, does not count but the stair does", () -> {
            RaggedColumns x = Samples.text("30!,20!,10!,30");
            x.setPenalties(3, 0, 0);
            Check.equal("stairs", x.stairs(), 1);
            Check.equal("cost", x.cost(), 900 + 1600 + 2500);
        });
        Check.test(p + "stair penalty 9999, the greatest, for each of two", () -> {
            RaggedColumns x = Samples.text("30!,25!,20!,15!,30");
            x.setPenalties(5, 9999, 0);
            Check.equal("cost", x.cost(), 900 + 1225 + 1600 + 2025 + 2 * 9999);
        });
    }

    private static String greedy(int column, int space, String inputText) {
        RaggedColumns x = Samples.text(column, space, inputText);
        x.setOptimal(false);
        return Samples.lineWidths(x);
    }

    private static void greedyLayout() {
        String p = "Terms, greedy layout: ";
        Check.test(p + "each line has as many words as just fit",
                () -> Check.equal("lines", greedy(34, 2, "10,10,10,10,10,10,10"), "[34, 34, 10]"));
        Check.test(p + "one less where they do not fit by 1",
                () -> Check.equal("lines", greedy(33, 2, "10,10,10,10,10"), "[22, 22, 10]"));
        Check.test(p + "it does not look at the cost",
                () -> Check.equal("lines", greedy(58, 2, "10,10,10,10,10,1"), "[58, 1]"));
        Check.test(p + "a forced break ends a line early",
                () -> Check.equal("lines", greedy(60, 2, "10,10!,10,10,10,10,10,10/,5"),
                        "[22, 58, 10, 5]"));
        Check.test(p + "40 words with a last one too many", () -> {
            RaggedColumns x = Samples.fullText(1);
            x.setSpace(1);
            x.setColumn(78);
            x.setOptimal(false);
            Check.equal("lines", Samples.lineWidths(x), "[77, 1]");
        });
    }

    private static String optimal(int column, int space, int stairPenalty, int shortPenalty,
            String inputText) {
        RaggedColumns x = Samples.text(column, space, inputText);
        x.setPenalties(3, stairPenalty, shortPenalty);
        return Samples.lineWidths(x);
    }

    private static void optimalLayout() {
        String p = "Terms, optimal layout: ";
        Check.test(p + "the least cost by 1, against a short last line", () -> {
            // A full first line and a last one of 3, or a first line with a slack of 10.
            Check.equal("99", optimal(40, 1, 500, 99, "30,9,3"), "[40, 3]");
            Check.equal("101", optimal(40, 1, 500, 101, "30,9,3"), "[30, 13]");
        });
        Check.test(p + "the least cost by 1, against a stair", () -> {
            // 159 and the stair 21, 25, 28, or 889 without one.
            String inputText = "23,1,10,6,16,7,28,15";
            Check.equal("729", optimal(30, 2, 729, 0, inputText), "[23, 21, 25, 28, 15]");
            Check.equal("731", optimal(30, 2, 731, 0, inputText), "[26, 18, 16, 7, 28, 15]");
        });
        Check.test(p + "the least cost by 1, of 40 words", () -> {
            RaggedColumns x = Samples.fullText(1);
            x.setSpace(1);
            x.setColumn(78);
            // A slack of 1 and a short last line, or a slack of 21.
            x.setPenalties(3, 500, 439);
            Check.equal("439", Samples.lineWidths(x), "[77, 1]");
            x.setPenalties(3, 500, 441);
            Check.equal("441", Samples.lineWidths(x), "[57, 21]");
        });
        Check.test(p + "one word", () -> Check.equal("lines", optimal(30, 1, 0, 9999, "1"), "[1]"));
        Check.test(p + "each paragraph has its own",
                () -> Check.equal("lines", optimal(60, 2, 500, 300, "10,10,10,10,10,10/,10,10,10,10,10,10"),
                        "[46, 22, 46, 22]"));
    }

    private static void equalLayouts() {
        String p = "Terms, optimal layout: of equal cost ";
        Check.test(p + "the one with the fewest lines, though its first line has fewer words", () -> {
            // Lines of 5, 36, 37, 29 or of 16, 25, 22, 35, 7 with a short last one: 1250.
            String inputText = "5,9,25,22,13,20,7";
            Check.equal("equal", optimal(40, 2, 500, 100, inputText), "[5, 36, 37, 29]");
            Check.equal("not equal", optimal(40, 2, 500, 99, inputText), "[16, 25, 22, 35, 7]");
        });
        Check.test(p + "the one with the fewest lines, though it has a stair",
                () -> Check.equal("lines", optimal(30, 2, 730, 0, "23,1,10,6,16,7,28,15"),
                        "[23, 21, 25, 28, 15]"));
        Check.test(p + "and with as many lines the one whose first line has the most words", () -> {
            // Lines of 25 and 19 or of 19 and 25 ahead of the last one: 146.
            Check.equal("lines", optimal(30, 1, 500, 300, "19,5,19,11,6"), "[25, 19, 18]");
            Check.equal("a short last line", optimal(40, 1, 500, 100, "30,9,3"), "[40, 3]");
        });
        Check.test(p + "and with as many words in the first line the most in the second", () -> {
            // Behind 22 lines of 28 and 24 or of 24 and 28: 104.
            Check.equal("lines", optimal(30, 1, 500, 300, "22,24,3,24,7,11,3"), "[22, 28, 24, 23]");
            Check.equal("behind a break", optimal(40, 2, 500, 100, "10!,30,8,7"), "[10, 40, 7]");
        });
        Check.test(p + "and with as many words in the second line the most in the third",
                () -> Check.equal("lines", optimal(30, 1, 500, 300, "25,23,23,3,23,24"),
                        "[25, 23, 27, 23, 24]"));
        Check.test(p + "and with as many lines a stair without a penalty does not count",
                // Behind 13 lines of 25 and 19, or of 19 and 25 with a stair.
                () -> Check.equal("lines", optimal(30, 1, 0, 300, "13!,19,5,19,11,6"), "[13, 25, 19, 18]"));
        Check.test(p + "the one with the most words in the first line of 40 words", () -> {
            RaggedColumns x = Samples.fullText(1);
            x.setSpace(1);
            x.setColumn(78);
            x.setPenalties(3, 500, 440);
            Check.equal("lines", Samples.lineWidths(x), "[77, 1]");
            Check.equal("cost", x.cost(), 441);
        });
    }

    private static String dearStairs(int step, String inputText) {
        RaggedColumns x = Samples.text(30, 1, inputText);
        x.setPenalties(step, 9999, 300);
        return Samples.lineWidths(x);
    }

    /** Each of these layouts would be another one if the three lines that it has counted as a stair. */
    private static void optimalLayoutAndStairs() {
        String p = "Terms, optimal layout: no stair ";
        Check.test(p + "of two lines, the second one wider",
                () -> Check.equal("lines", dearStairs(4, "20,8,15,11,6"), "[20, 24, 18]"));
        Check.test(p + "of two lines, the second one narrower",
                () -> Check.equal("lines", dearStairs(6, "19,5,19,11,6"), "[25, 19, 18]"));
        Check.test(p + "of two lines, the second one narrower, behind a forced break",
                () -> Check.equal("lines", dearStairs(3, "30!,20,8,15,11,6"), "[30, 20, 24, 18]"));
        Check.test(p + "with the last line as the third one",
                () -> Check.equal("lines", dearStairs(1, "19,5,19,11,6"), "[25, 19, 18]"));
        Check.test(p + "with the only line of the paragraph before",
                () -> Check.equal("lines", dearStairs(3, "30/,19,5,19,11,6"), "[30, 25, 19, 18]"));
        Check.test(p + "with two lines of the paragraph before",
                () -> Check.equal("lines", dearStairs(3, "18!,21/,19,5,19,11,6"), "[18, 21, 25, 19, 18]"));
        Check.test(p + "with the last line of a paragraph between others",
                () -> Check.equal("lines", dearStairs(3, "9/,8!,30/,19,5,19,11,6"),
                        "[9, 8, 30, 25, 19, 18]"));
        Check.test("Terms, optimal layout: a stair behind a line of its paragraph is avoided",
                () -> Check.equal("lines", dearStairs(3, "30!,19,5,19,11,6"), "[30, 19, 25, 18]"));
    }

    private static void optimalLayoutOfFortyWords() {
        String p = "Terms, optimal layout: ";
        Check.test(p + "the last three of 40 words, behind a line", () -> {
            RaggedColumns x = behindOthers("30,9,3", 1);
            x.setPenalties(3, 500, 100);
            Check.equal("most words", x.lineWidth(37) + " " + x.lineWidth(38), "40 3");
            x.setPenalties(3, 500, 101);
            Check.equal("a cost more", x.lineWidth(37) + " " + x.lineWidth(38), "30 13");
        });
        Check.test(p + "the last three of 40 words, as a paragraph", () -> {
            RaggedColumns x = behindOthers("30,9,3", 2);
            x.setPenalties(3, 500, 100);
            Check.equal("most words", x.lineWidth(37) + " " + x.lineWidth(38), "40 3");
            x.setPenalties(3, 500, 101);
            Check.equal("a cost more", x.lineWidth(37) + " " + x.lineWidth(38), "30 13");
        });
        Check.test(p + "the first three of 40 words", () -> {
            RaggedColumns x = Samples.text("30,9,3/");
            for (int word = 3; word < 40; word++) {
                x.insert(word, 30);
            }
            x.setColumn(40);
            x.setSpace(1);
            x.setPenalties(3, 500, 101);
            Check.equal("a cost more", x.lineWidth(0) + " " + x.lineWidth(1), "30 13");
        });
    }

    /** 40 words of which the last three follow 37 lines of one word, the last of them marked. */
    private static RaggedColumns behindOthers(String inputText, int mark) {
        RaggedColumns x = Samples.wordsOf(37, 30);
        x.setMark(36, mark);
        Samples.type(x, inputText);
        x.load();
        x.setColumn(40);
        x.setSpace(1);
        return x;
    }

    private static void costOfText() {
        String p = "Terms, cost of the text: ";
        Check.test(p + "none without words", () -> Check.equal("cost", new RaggedColumns().cost(), 0));
        Check.test(p + "the sum over two paragraphs",
                () -> Check.equal("cost", Samples.text("30!,14/,20!,14").cost(), 900 + 300 + 1600 + 300));
        Check.test(p + "a high one, of 40 lines with 28 stairs in 4 paragraphs", () -> {
            RaggedColumns x = new RaggedColumns();
            for (int word = 0; word < 40; word++) {
                x.insert(word, word % 10 * 3 + 1);
                x.setMark(word, word % 10 == 9 ? 2 : 1);
            }
            x.setColumn(100);
            x.setPenalties(3, 9999, 9999);
            int slack = 0;
            for (int line = 0; line < 9; line++) {
                slack += (99 - 3 * line) * (99 - 3 * line);
            }
            // The last line of each paragraph is 28 wide, and so not short.
            Check.equal("cost", x.cost(), 4 * (slack + 7 * 9999));
        });
    }

    private static void calls() {
        Check.test("Terms, calls: the 512th call is answered as due", () -> {
            RaggedColumns x = new RaggedColumns();
            for (int call = 1; call <= 511; call += 7) {
                x.insert(0, 9);
                x.setMark(0, 1);
                x.setColumn(77);
                x.lines();
                x.undo();
                x.undo();
                x.undo();
            }
            Check.equal("words", x.words(), 0);
        });
    }
}

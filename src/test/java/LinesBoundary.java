/** Boundary cases of the promises 13 to 21: lines, paragraphs, stairs and cost. */
final class LinesBoundary {
    private LinesBoundary() {
    }

    static void run() {
        promise13Lines();
        promise14LineOf();
        promise15FirstWord();
        promise16LineWidth();
        promise17StairAt();
        promise17StairAtEnds();
        promise18Reason();
        promise18FirstReason();
        promise19Paragraphs();
        promise20Stairs();
        promise21Cost();
        promise21CostBehindChanges();
    }

    /** The refused numbers of words in texts of 0, 1, 6 and 40 words. */
    private static void wordRefused(String p, Limits.NumberCall call) {
        Limits.index(p + "in the empty text, word", RaggedColumns::new, 0, call);
        Limits.index(p + "in a text of 1 word, word", () -> Samples.text("9"), 1, call);
        Limits.index(p + "in a text of 6 words in 5 lines, word", Samples::small, 6, call);
        Limits.index(p + "in a text of 40 words, word", Samples::full, 40, call);
    }

    /** The refused numbers of lines in texts of 0, 1, 5 and 40 lines. */
    private static void lineRefused(String p, Limits.NumberCall call) {
        Limits.index(p + "in the empty text, line", RaggedColumns::new, 0, call);
        Limits.index(p + "in a text of 3 words in 1 line, line", () -> Samples.text("9,8,7"), 1, call);
        Limits.index(p + "in a text of 6 words in 5 lines, line", Samples::small, 5, call);
        Limits.index(p + "in a text of 40 lines, line", () -> Samples.fullText(30), 40, call);
    }

    private static void promise13Lines() {
        String p = "Promise 13, lines: ";
        Check.test(p + "0 in the empty text", () -> Check.equal("lines", new RaggedColumns().lines(), 0));
        Check.test(p + "0 behind the removal of the only word", () -> {
            RaggedColumns x = Samples.text("5/");
            Check.equal("lines", x.lines(), 1);
            x.remove(0);
            Check.equal("lines", x.lines(), 0);
        });
        Check.test(p + "1 for one word", () -> Check.equal("lines", Samples.text("5").lines(), 1));
        Check.test(p + "1 for 40 words", () -> {
            RaggedColumns x = Samples.fullText(1);
            x.setSpace(1);
            x.setColumn(79);
            Check.equal("lines", x.lines(), 1);
        });
        Check.test(p + "40, the greatest number",
                () -> Check.equal("lines", Samples.fullText(30).lines(), 40));
        Check.test(p + "40, the greatest number, in greedy mode", () -> {
            RaggedColumns x = Samples.fullText(30);
            x.setOptimal(false);
            Check.equal("lines", x.lines(), 40);
        });
        Check.test(p + "those of the present mode", () -> {
            RaggedColumns x = Samples.text(30, 2, "23,1,10,6,16,7,28,15");
            x.setPenalties(3, 731, 0);
            Check.equal("optimal", x.lines(), 6);
            x.setOptimal(false);
            Check.equal("greedy", x.lines(), 5);
        });
    }

    private static void promise14LineOf() {
        String p = "Promise 14, lineOf: ";
        Check.test(p + "word 0, the least, is in line 0",
                () -> Check.equal("lineOf", Samples.small().lineOf(0), 0));
        Check.test(p + "word 5 of 6, the greatest, is in the last line",
                () -> Check.equal("lineOf", Samples.small().lineOf(5), 4));
        Check.test(p + "the words on both sides of a line's end", () -> {
            RaggedColumns x = Samples.text("10,10,10,10,10,10");
            Check.equal("lines", Samples.list(6, x::lineOf), "[0, 0, 0, 0, 1, 1]");
            x.setOptimal(false);
            Check.equal("greedy lines", Samples.list(6, x::lineOf), "[0, 0, 0, 0, 0, 1]");
        });
        Check.test(p + "word 39 of 40 in line 39",
                () -> Check.equal("lineOf", Samples.fullText(30).lineOf(39), 39));
        Check.test(p + "word 39 of 40 in line 0", () -> {
            RaggedColumns x = Samples.fullText(1);
            x.setColumn(100);
            x.setSpace(1);
            Check.equal("lineOf", x.lineOf(39), 0);
        });
        wordRefused(p, RaggedColumns::lineOf);
    }

    private static void promise15FirstWord() {
        String p = "Promise 15, firstWord: ";
        Check.test(p + "line 0, the least, begins with word 0",
                () -> Check.equal("firstWord", Samples.small().firstWord(0), 0));
        Check.test(p + "line 4 of 5, the greatest, begins with its first word",
                () -> Check.equal("firstWord", Samples.small().firstWord(4), 4));
        Check.test(p + "line 39 of 40, the greatest of all",
                () -> Check.equal("firstWord", Samples.fullText(30).firstWord(39), 39));
        Check.test(p + "of each paragraph", () -> {
            RaggedColumns x = Samples.text("1,2/,3,4/,5,6");
            Check.equal("first words", Samples.list(3, x::firstWord), "[0, 2, 4]");
        });
        lineRefused(p, RaggedColumns::firstWord);
    }

    private static void promise16LineWidth() {
        String p = "Promise 16, lineWidth: ";
        Check.test(p + "line 0, the least, with the least width",
                () -> Check.equal("lineWidth", Samples.text("1!,2").lineWidth(0), 1));
        Check.test(p + "line 1 of 2, the greatest, with the least width",
                () -> Check.equal("lineWidth", Samples.text("2!,1").lineWidth(1), 1));
        Check.test(p + "the greatest width, 100", () -> {
            RaggedColumns x = Samples.text(100, 2, "30,30,30,4");
            Check.equal("lineWidth", x.lineWidth(0), 100);
        });
        Check.test(p + "line 39 of 40, the greatest of all",
                () -> Check.equal("lineWidth", Samples.fullText(30).lineWidth(39), 30));
        Check.test(p + "a line of 40 words", () -> {
            RaggedColumns x = Samples.fullText(1);
            x.setColumn(100);
            x.setSpace(1);
            Check.equal("lineWidth", x.lineWidth(0), 79);
        });
        lineRefused(p, RaggedColumns::lineWidth);
    }

    private static String stairsAt(RaggedColumns x) {
        return Samples.list(x.lines(), x::stairAt);
    }

    private static void promise17StairAt() {
        String p = "Promise 17, stairAt: ";
        Check.test(p + "-1 at the second line of one that becomes narrower",
                () -> Check.equal("stairs", stairsAt(Samples.text("30!,27!,24!,30")), "[0, -1, 0, 0]"));
        Check.test(p + "1 at the second line of one that becomes wider",
                () -> Check.equal("stairs", stairsAt(Samples.text("24!,27!,30!,30")), "[0, 1, 0, 0]"));
        Check.test(p + "0 where the second line is narrower by one less than the step",
                () -> Check.equal("stairs", stairsAt(Samples.text("30!,28!,24!,30")), "[0, 0, 0, 0]"));
        Check.test(p + "0 where the third line is narrower by one less than the step",
                () -> Check.equal("stairs", stairsAt(Samples.text("30!,27!,25!,30")), "[0, 0, 0, 0]"));
        Check.test(p + "0 where the second line is wider by one less than the step",
                () -> Check.equal("stairs", stairsAt(Samples.text("24!,26!,30!,30")), "[0, 0, 0, 0]"));
        Check.test(p + "0 where the third line is wider by one less than the step",
                () -> Check.equal("stairs", stairsAt(Samples.text("24!,27!,29!,30")), "[0, 0, 0, 0]"));
        Check.test(p + "two lines that are second lines in turn",
                () -> Check.equal("stairs", stairsAt(Samples.text("5!,10!,15!,20!,30")),
                        "[0, 1, 1, 0, 0]"));
        Check.test(p + "narrower and then wider lines",
                () -> Check.equal("stairs", stairsAt(Samples.text("30!,20!,10!,20!,30!,30")),
                        "[0, -1, 0, 1, 0, 0]"));
        Check.test(p + "the greatest step, 20", () -> {
            RaggedColumns x = Samples.text("30,18!,30!,10!,30");
            x.setPenalties(20, 0, 0);
            Check.equal("stairs", stairsAt(x), "[0, -1, 0, 0]");
        });
        Check.test(p + "a stair with the penalty 0", () -> {
            RaggedColumns x = Samples.text("30!,27!,24!,30");
            x.setPenalties(3, 0, 300);
            Check.equal("stairs", stairsAt(x), "[0, -1, 0, 0]");
        });
        lineRefused(p, RaggedColumns::stairAt);
    }

    private static void promise17StairAtEnds() {
        String p = "Promise 17, stairAt: ";
        Check.test(p + "0 at the only line", () -> Check.equal("stairAt", Samples.text("9").stairAt(0), 0));
        Check.test(p + "0 at both of two lines",
                () -> Check.equal("stairs", stairsAt(Samples.text("30!,20")), "[0, 0]"));
        Check.test(p + "0 at the line ahead of the last one",
                () -> Check.equal("stairs", stairsAt(Samples.text("30!,20!,10")), "[0, 0, 0]"));
        Check.test(p + "0 at the line ahead of the last one of the first paragraph",
                () -> Check.equal("stairs", stairsAt(Samples.text("30!,20!,10/,5")), "[0, 0, 0, 0]"));
        Check.test(p + "0 at the last line of a paragraph, ahead of narrower ones",
                () -> Check.equal("stairs", stairsAt(Samples.text("30!,20/,10!,5!,30")),
                        "[0, 0, 0, 0, 0]"));
        Check.test(p + "0 at the first line of a paragraph, between wider and narrower ones",
                () -> Check.equal("stairs", stairsAt(Samples.text("30/,20!,10!,30")), "[0, 0, 0, 0]"));
        Check.test(p + "the second line of the second paragraph",
                () -> Check.equal("stairs", stairsAt(Samples.text("9/,30!,20!,10!,30")),
                        "[0, 0, -1, 0, 0]"));
        Check.test(p + "line 38 of 40 is ahead of the last one, line 37 is not", () -> {
            RaggedColumns x = Samples.fullText(30);
            x.remove(39);
            x.insert(38, 20);
            x.remove(37);
            x.insert(37, 25);
            x.setColumn(30);
            Check.equal("widths",
                    x.lineWidth(37) + " " + x.lineWidth(38) + " " + x.lineWidth(39), "25 20 30");
            Check.equal("line 37", x.stairAt(37), -1);
            Check.equal("line 38", x.stairAt(38), 0);
            Check.equal("line 39", x.stairAt(39), 0);
        });
    }

    private static void promise18Reason() {
        String p = "Promise 18, reason: ";
        Check.test(p + "0 where no line ends",
                () -> Check.equal("reason", Samples.text("9,9").reason(0), 0));
        Check.test(p + "1 at the last word without a mark",
                () -> Check.equal("reason", Samples.text("9").reason(0), 1));
        Check.test(p + "2 at a forced break",
                () -> Check.equal("reason", Samples.text("9!,9").reason(0), 2));
        Check.test(p + "3 where the next word is too wide by 1",
                () -> Check.equal("reason", Samples.text(41, 2, "20,20").reason(0), 3));
        Check.test(p + "4 where the next word would just fit", () -> {
            RaggedColumns x = Samples.text("10,10,10,10,10,10");
            Check.equal("reason in a column of 60", x.reason(3), 4);
            x.setColumn(58);
            Check.equal("reason in a column of 58", x.reason(3), 4);
            x.setColumn(57);
            Check.equal("reason in a column of 57", x.reason(3), 3);
        });
        Check.test(p + "never 4 in greedy mode", () -> {
            RaggedColumns x = Samples.text("10,10,10,10,10,10");
            x.setOptimal(false);
            Check.equal("reasons", Samples.list(6, x::reason), "[0, 0, 0, 0, 3, 1]");
        });
        Check.test(p + "word 0, the least",
                () -> Check.equal("reason", Samples.small().reason(0), 2));
        Check.test(p + "word 5 of 6, the greatest",
                () -> Check.equal("reason", Samples.small().reason(5), 1));
        Check.test(p + "word 39 of 40, the greatest of all, and the word ahead", () -> {
            RaggedColumns x = Samples.fullText(30);
            Check.equal("word 39", x.reason(39), 1);
            Check.equal("word 38", x.reason(38), 3);
        });
        wordRefused(p, RaggedColumns::reason);
    }

    private static void promise18FirstReason() {
        String p = "Promise 18, reason, the first that applies: ";
        Check.test(p + "1 ahead of 2, the last word has the mark 1",
                () -> Check.equal("reason", Samples.text("9!").reason(0), 1));
        Check.test(p + "1 ahead of 3, the next paragraph's word is too wide",
                () -> Check.equal("reason", Samples.text(41, 2, "20/,20").reason(0), 1));
        Check.test(p + "1 though the next paragraph's word would fit",
                () -> Check.equal("reason", Samples.text(42, 2, "20/,20").reason(0), 1));
        Check.test(p + "2 ahead of 3, the next word is too wide",
                () -> Check.equal("reason", Samples.text(41, 2, "20!,20").reason(0), 2));
        Check.test(p + "2 ahead of 4, the next word would fit",
                () -> Check.equal("reason", Samples.text(42, 2, "20!,20").reason(0), 2));
        Check.test(p + "3 ahead of 4, the optimal layout is the greedy one",
                () -> Check.equal("reason", Samples.text(60, 2, "30,28,20").reason(1), 3));
    }

    private static void promise19Paragraphs() {
        String p = "Promise 19, paragraphs: ";
        Check.test(p + "0 in the empty text",
                () -> Check.equal("paragraphs", new RaggedColumns().paragraphs(), 0));
        Check.test(p + "0 behind the removal of the only word", () -> {
            RaggedColumns x = Samples.text("5/");
            x.remove(0);
            Check.equal("paragraphs", x.paragraphs(), 0);
        });
        Check.test(p + "1 for one word with each mark", () -> {
            Check.equal("none", Samples.text("5").paragraphs(), 1);
            Check.equal("forced break", Samples.text("5!").paragraphs(), 1);
            Check.equal("end of paragraph", Samples.text("5/").paragraphs(), 1);
        });
        Check.test(p + "40, the greatest number", () -> {
            RaggedColumns x = Samples.fullText(1);
            for (int word = 0; word < 40; word++) {
                x.setMark(word, 2);
            }
            Check.equal("paragraphs", x.paragraphs(), 40);
        });
        Check.test(p + "one less without the mark 2 between two", () -> {
            RaggedColumns x = Samples.text("5/,6/,7/");
            Check.equal("paragraphs", x.paragraphs(), 3);
            x.setMark(1, 1);
            Check.equal("behind setMark", x.paragraphs(), 2);
            x.setMark(2, 1);
            Check.equal("behind setMark at the last word", x.paragraphs(), 2);
        });
    }

    private static void promise20Stairs() {
        String p = "Promise 20, stairs: ";
        Check.test(p + "0 in the empty text", () -> Check.equal("stairs", new RaggedColumns().stairs(), 0));
        Check.test(p + "0 for one line", () -> Check.equal("stairs", Samples.text("9").stairs(), 0));
        Check.test(p + "0 for three lines",
                () -> Check.equal("stairs", Samples.text("30!,20!,10").stairs(), 0));
        Check.test(p + "1 for four lines",
                () -> Check.equal("stairs", Samples.text("30!,20!,10!,1").stairs(), 1));
        Check.test(p + "the sum over all paragraphs",
                () -> Check.equal("stairs", Samples.text("30!,20!,10!,1/,5!,9!,15!,25!,1/,9").stairs(), 3));
        Check.test(p + "those of the present mode", () -> {
            RaggedColumns x = Samples.text(30, 2, "23,1,10,6,16,7,28,15");
            x.setPenalties(3, 731, 0);
            Check.equal("optimal, 26, 18, 16, 7, 28, 15", x.stairs(), 0);
            x.setPenalties(3, 730, 0);
            Check.equal("optimal, 23, 21, 25, 28, 15", x.stairs(), 1);
            x.setOptimal(false);
            Check.equal("greedy, 26, 18, 25, 28, 15", x.stairs(), 1);
            Check.equal("the greedy lines", Samples.lineWidths(x), "[26, 18, 25, 28, 15]");
        });
        Check.test(p + "28 in 40 lines of 4 paragraphs", () -> {
            RaggedColumns x = new RaggedColumns();
            for (int word = 0; word < 40; word++) {
                x.insert(word, word % 10 * 3 + 1);
                x.setMark(word, word % 10 == 9 ? 2 : 1);
            }
            Check.equal("stairs", x.stairs(), 28);
        });
    }

    private static void promise21Cost() {
        String p = "Promise 21, cost: ";
        Check.test(p + "0 in the empty text", () -> Check.equal("cost", new RaggedColumns().cost(), 0));
        Check.test(p + "0 for one line, with the greatest penalties", () -> {
            RaggedColumns x = Samples.text("1");
            x.setPenalties(1, 9999, 9999);
            Check.equal("cost", x.cost(), 0);
        });
        Check.test(p + "the greatest slack in 39 lines and the greatest short penalty", () -> {
            RaggedColumns x = Samples.fullText(1);
            for (int word = 0; word < 39; word++) {
                x.setMark(word, 1);
            }
            x.setColumn(100);
            x.setPenalties(1, 9999, 9999);
            Check.equal("cost", x.cost(), 39 * 9801 + 9999);
        });
        Check.test(p + "36 stairs with the greatest penalty in 40 lines", () -> {
            RaggedColumns x = new RaggedColumns();
            int slack = 0;
            for (int word = 0; word < 40; word++) {
                int width = word < 30 ? word + 1 : 59 - word;
                x.insert(word, width);
                x.setMark(word, 1);
                slack += word < 39 ? (100 - width) * (100 - width) : 0;
            }
            x.setColumn(100);
            x.setPenalties(1, 9999, 9999);
            // The last line is 20 wide, and so short.
            Check.equal("cost", x.cost(), slack + 36 * 9999 + 9999);
        });
        Check.test(p + "that of the present mode", () -> {
            RaggedColumns x = Samples.text("10,10,10,10,10,10");
            Check.equal("optimal", x.cost(), 14 * 14);
            x.setOptimal(false);
            Check.equal("greedy", x.cost(), 4 + 300);
        });
    }

    private static void promise21CostBehindChanges() {
        String p = "Promise 21, cost: ";
        Check.test(p + "asked behind each kind of change and its undo", () -> {
            Twins.Call[] changes = {x -> x.insert(6, 30), x -> x.remove(3), x -> x.setMark(2, 2),
                x -> x.setColumn(71), x -> x.setSpace(5), x -> x.setPenalties(4, 601, 200),
                x -> x.setPage(9), x -> x.setOptimal(false), RaggedColumns::load};
            // Lines of 30, 20, 10 and 14 in a column of 70 with a stair, and a last one of 20.
            int cost = 1600 + 2500 + 3600 + 600 + 200;
            // Without 14 a line of 20 is the last one; 5! and 7 go on behind 9 and 8.
            int[] due = {cost, 1600 + 2500 + 3600 + 600, 1600 + 2500 + 200,
                1681 + 2601 + 3721 + 600 + 200, cost, cost + 1, cost, cost, cost + 42 * 42 + 200};
            for (int i = 0; i < changes.length; i++) {
                RaggedColumns x = Samples.small();
                Check.equal("cost", x.cost(), cost);
                changes[i].on(x);
                Check.equal("cost behind change " + i, x.cost(), due[i]);
                x.undo();
                Check.equal("cost behind the undo of change " + i, x.cost(), cost);
            }
        });
    }
}

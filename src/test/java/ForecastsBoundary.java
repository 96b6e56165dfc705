/** Boundary cases of the promises 27 to 30: forecasts. */
final class ForecastsBoundary {
    private static final String SIX = "10,10,10,10,10,10";

    private ForecastsBoundary() {
    }

    static void run() {
        promise27CostFor();
        promise27CostForModes();
        promise28BestColumn();
        promise28BestColumnRange();
        promise28BestColumnRefused();
        promise29Saving();
        promise30CostIfMarked();
        promise30CostIfMarkedRefused();
    }

    private static void promise27CostFor() {
        String p = "Promise 27, costFor: ";
        Check.test(p + "width 30, the least", () -> {
            RaggedColumns x = Samples.text("30!,20!,30");
            Check.equal("costFor", x.costFor(30, true), 100);
        });
        Check.test(p + "width 100, the greatest", () -> {
            RaggedColumns x = Samples.text("30!,20!,30");
            Check.equal("costFor", x.costFor(100, true), 4900 + 6400);
        });
        for (boolean isOptimal : new boolean[] {true, false}) {
            Limits.argument(p + "in a text of 6 words, optimal " + isOptimal + ", width", Samples::small,
                    30, 100, (x, width) -> x.costFor(width, isOptimal));
            Check.test(p + "in the empty text 0 for each width, optimal " + isOptimal, () -> {
                RaggedColumns x = new RaggedColumns();
                for (int width = 30; width <= 100; width++) {
                    Check.equal("costFor", x.costFor(width, isOptimal), 0);
                }
            });
        }
        Limits.argument(p + "in the empty text, width", RaggedColumns::new, 30, 100,
                (x, width) -> x.costFor(width, false));
        Check.test(p + "of 40 words", () -> {
            RaggedColumns x = Samples.fullText(30);
            x.setPenalties(3, 9999, 9999);
            Check.equal("width 61", x.costFor(61, true), 39 * 31 * 31);
            Check.equal("width 62", x.costFor(62, true), 0);
            Check.equal("width 30", x.costFor(30, false), 0);
        });
        Check.test(p + "another width changes nothing",
                () -> Twins.unchanged(Samples::small, x -> x.costFor(30, false)));
        Check.test(p + "another width changes nothing in a full text",
                () -> Twins.unchanged(Samples::full, x -> x.costFor(100, true)));
        Check.test(p + "the lines of before behind the lines of a forecast", () -> {
            RaggedColumns x = Samples.text(SIX);
            Check.equal("lines", Samples.lineWidths(x), "[46, 22]");
            x.costFor(30, true);
            Check.equal("lines", Samples.lineWidths(x), "[46, 22]");
        });
    }

    private static void promise27CostForModes() {
        String p = "Promise 27, costFor: ";
        Check.test(p + "optimal in optimal mode",
                () -> Check.equal("costFor", Samples.text(SIX).costFor(60, true), 196));
        Check.test(p + "greedy in optimal mode",
                () -> Check.equal("costFor", Samples.text(SIX).costFor(60, false), 304));
        Check.test(p + "optimal in greedy mode", () -> {
            RaggedColumns x = Samples.text(SIX);
            x.setOptimal(false);
            Check.equal("costFor", x.costFor(60, true), 196);
        });
        Check.test(p + "greedy in greedy mode", () -> {
            RaggedColumns x = Samples.text(SIX);
            x.setOptimal(false);
            Check.equal("costFor", x.costFor(60, false), 304);
        });
        Check.test(p + "the present width and mode cost what the text costs", () -> {
            RaggedColumns x = Samples.full();
            Check.equal("costFor", x.costFor(30, false), x.cost());
        });
        Check.test(p + "a short last line depends on the other width", () -> {
            RaggedColumns x = Samples.text("30!,15");
            Check.equal("width 60", x.costFor(60, true), 900);
            Check.equal("width 61", x.costFor(61, true), 961 + 300);
        });
    }

    private static void best(String name, int low, int high, int due) {
        // In a column of 34, 46 or of 70 and more they cost nothing.
        Check.test("Promise 28, bestColumn: " + name,
                () -> Check.equal("bestColumn", Samples.text(SIX).bestColumn(low, high), due));
    }

    private static void promise28BestColumn() {
        best("low 30, the least, and high 100, the greatest: the least of several", 30, 100, 34);
        best("low and high 30, the least", 30, 30, 30);
        best("low and high 100, the greatest", 100, 100, 100);
        best("low and high between", 60, 60, 60);
        best("the best one is low", 34, 45, 34);
        best("the best one is high", 31, 34, 34);
        best("the best one is one below low", 35, 45, 35);
        best("the best one is one above high", 47, 69, 47);
        best("the least of those without cost", 47, 100, 70);
        best("all are without cost", 71, 100, 71);
        best("the next width is better", 33, 34, 34);
    }

    private static void promise28BestColumnRange() {
        String p = "Promise 28, bestColumn: ";
        Check.test(p + "the least of two that cost something", () -> {
            // Lines of 27, 22, 30 and 22 leave 11, 16 and 8; lines of 51, 30 and 22 leave 0 and 21.
            RaggedColumns x = Samples.text("27,22,30,22");
            Check.equal("38", x.costFor(38, true), 441);
            Check.equal("51", x.costFor(51, true), 441);
            Check.equal("both", x.bestColumn(38, 51), 38);
            Check.equal("the second alone", x.bestColumn(39, 51), 51);
        });
        Check.test(p + "low in the empty text", () -> {
            Check.equal("30 to 100", new RaggedColumns().bestColumn(30, 100), 30);
            Check.equal("100 to 100", new RaggedColumns().bestColumn(100, 100), 100);
            Check.equal("45 to 46", new RaggedColumns().bestColumn(45, 46), 45);
        });
        Check.test(p + "optimal layouts in greedy mode", () -> {
            RaggedColumns x = Samples.text(SIX);
            x.setOptimal(false);
            Samples.type(x, "30,16,8,30");
            x.setMark(5, 2);
            x.load();
            Check.equal("57, greedy", x.costFor(57, false), 121 + 81);
            Check.equal("58, greedy", x.costFor(58, false), 300);
            Check.equal("57, optimal", x.costFor(57, true), 121 + 81);
            Check.equal("58, optimal", x.costFor(58, true), 144);
            Check.equal("bestColumn", x.bestColumn(57, 58), 58);
        });
        Check.test(p + "of 40 words", () -> {
            RaggedColumns x = Samples.fullText(30);
            Check.equal("30 to 100", x.bestColumn(30, 100), 30);
            Check.equal("31 to 100", x.bestColumn(31, 100), 62);
            Check.equal("31 to 61", x.bestColumn(31, 61), 31);
            Check.equal("63 to 100", x.bestColumn(63, 100), 94);
        });
        Check.test(p + "it changes nothing",
                () -> Twins.unchanged(Samples::small, x -> x.bestColumn(30, 100)));
        Check.test(p + "it changes nothing in a full text",
                () -> Twins.unchanged(Samples::full, x -> x.bestColumn(44, 55)));
    }

    private static void promise28BestColumnRefused() {
        String p = "Promise 28, bestColumn: ";
        Limits.argument(p + "low", Samples::small, 30, 100, (x, low) -> x.bestColumn(low, 100));
        Limits.argument(p + "with low 30 high", Samples::small, 30, 100, (x, high) -> x.bestColumn(30, high));
        Limits.argument(p + "with low 50 high", Samples::small, 50, 100, (x, high) -> x.bestColumn(50, high));
        Limits.argument(p + "with low 100 high", Samples::small, 100, 100,
                (x, high) -> x.bestColumn(100, high));
        Limits.argument(p + "in the empty text, low and high", RaggedColumns::new, 30, 100,
                (x, width) -> x.bestColumn(width, width));
        Check.test(p + "low and high out of range",
                () -> Twins.refused(Samples::small, Twins.ARGUMENT, x -> x.bestColumn(29, 101)));
        Check.test(p + "low above high",
                () -> Twins.refused(Samples::small, Twins.ARGUMENT, x -> x.bestColumn(100, 30)));
    }

    private static void promise29Saving() {
        String p = "Promise 29, saving: ";
        Check.test(p + "0 in the empty text", () -> Check.equal("saving", new RaggedColumns().saving(), 0));
        Check.test(p + "0 for one word", () -> Check.equal("saving", Samples.text("1").saving(), 0));
        Check.test(p + "0 where the optimal layout is the greedy one",
                () -> Check.equal("saving", Samples.text("30,28,20").saving(), 0));
        Check.test(p + "0 where the two layouts cost the same",
                () -> Check.equal("saving", equalCosts(100).saving(), 0));
        Check.test(p + "1 where the greedy layout costs 1 more",
                () -> Check.equal("saving", equalCosts(101).saving(), 1));
        Check.test(p + "in both modes the same", () -> {
            RaggedColumns x = Samples.text(SIX);
            Check.equal("optimal", x.saving(), 108);
            x.setOptimal(false);
            Check.equal("greedy", x.saving(), 108);
        });
        Check.test(p + "the sum over all paragraphs",
                () -> Check.equal("saving", Samples.text(SIX + "/," + SIX + "/," + SIX).saving(), 3 * 108));
        Check.test(p + "of 40 words, with the greatest short penalty", () -> {
            RaggedColumns x = Samples.fullText(1);
            x.setSpace(1);
            x.setColumn(78);
            x.setPenalties(20, 9999, 9999);
            // Greedy lines of 77 and 1, optimal ones of 57 and 21.
            Check.equal("saving", x.saving(), 1 + 9999 - 441);
        });
        Check.test(p + "it changes nothing", () -> Twins.unchanged(Samples::small, RaggedColumns::saving));
        Check.test(p + "it changes nothing in greedy mode", () -> Twins.unchanged(() -> {
            RaggedColumns x = Samples.text(SIX);
            x.setOptimal(false);
            return x;
        }, RaggedColumns::saving));
    }

    /** Greedy lines of 40 and 3 cost the short penalty; lines of 30 and 13 cost 100. */
    private static RaggedColumns equalCosts(int shortPenalty) {
        RaggedColumns x = Samples.text(40, 1, "30,9,3");
        x.setPenalties(3, 500, shortPenalty);
        return x;
    }

    private static void promise30CostIfMarked() {
        String p = "Promise 30, costIfMarked: ";
        Check.test(p + "word 0, the least, with each mark", () -> {
            RaggedColumns x = Samples.text(SIX);
            Check.equal("none", x.costIfMarked(0, 0), 196);
            Check.equal("forced break", x.costIfMarked(0, 1), 2500);
            Check.equal("end of paragraph", x.costIfMarked(0, 2), 0);
        });
        Check.test(p + "word 4 of 6 with each mark", () -> {
            RaggedColumns x = Samples.text(SIX);
            Check.equal("none", x.costIfMarked(4, 0), 196);
            Check.equal("forced break", x.costIfMarked(4, 1), 304);
            Check.equal("end of paragraph", x.costIfMarked(4, 2), 0);
        });
        Check.test(p + "word 5 of 6, the greatest, with each mark", () -> {
            RaggedColumns x = Samples.text(SIX);
            for (int mark = 0; mark <= 2; mark++) {
                Check.equal("costIfMarked", x.costIfMarked(5, mark), 196);
            }
        });
        Check.test(p + "the mark that it has, and less", () -> {
            RaggedColumns x = Samples.text("10!,10,10,10,10,10");
            Check.equal("forced break", x.costIfMarked(0, 1), 2500);
            Check.equal("none", x.costIfMarked(0, 0), 196);
            Check.equal("end of paragraph", x.costIfMarked(0, 2), 0);
        });
        Check.test(p + "in greedy mode", () -> {
            RaggedColumns x = Samples.text("10,10,10!,10,10,10");
            x.setOptimal(false);
            Check.equal("none", x.costIfMarked(2, 0), 304);
            Check.equal("forced break", x.costIfMarked(2, 1), 26 * 26);
            Check.equal("end of paragraph", x.costIfMarked(2, 2), 0);
        });
        Check.test(p + "word 39 and word 38 of 40", () -> {
            RaggedColumns x = Samples.fullText(30);
            Check.equal("word 39", x.costIfMarked(39, 2), 39 * 900);
            Check.equal("word 38", x.costIfMarked(38, 2), 38 * 900);
            Check.equal("word 0", x.costIfMarked(0, 2), 38 * 900);
        });
        Check.test(p + "the mark that it has costs what the text costs", () -> {
            RaggedColumns x = Samples.full();
            Check.equal("costIfMarked", x.costIfMarked(1, 1), x.cost());
        });
        for (int mark = 0; mark <= 2; mark++) {
            int other = mark;
            Check.test(p + "mark " + mark + " changes nothing", () -> {
                Twins.unchanged(Samples::small, x -> x.costIfMarked(0, other));
                Twins.unchanged(Samples::small, x -> x.costIfMarked(5, other));
            });
        }
    }

    private static void promise30CostIfMarkedRefused() {
        String p = "Promise 30, costIfMarked: ";
        Limits.index(p + "in the empty text, word", RaggedColumns::new, 0,
                (x, word) -> x.costIfMarked(word, 0));
        Limits.index(p + "in a text of 6 words, word", Samples::small, 6,
                (x, word) -> x.costIfMarked(word, 2));
        Limits.index(p + "in a text of 40 words, word", Samples::full, 40,
                (x, word) -> x.costIfMarked(word, 1));
        Limits.argument(p + "mark", Samples::small, 0, 2, (x, mark) -> x.costIfMarked(0, mark));
        Limits.argument(p + "in a text of 40 words, mark", Samples::full, 0, 2,
                (x, mark) -> x.costIfMarked(39, mark));
        Check.test(p + "word and mark out of range: the word counts",
                () -> Twins.refused(Samples::small, Twins.INDEX, x -> x.costIfMarked(6, 3)));
        Check.test(p + "word below 0 and mark out of range: the word counts",
                () -> Twins.refused(Samples::small, Twins.INDEX, x -> x.costIfMarked(-1, -1)));
    }
}

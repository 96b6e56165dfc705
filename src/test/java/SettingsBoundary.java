/** Boundary cases of the promises 8 to 12: the settings. */
final class SettingsBoundary {
    private SettingsBoundary() {
    }

    static void run() {
        promise8SetColumn();
        promise9SetSpace();
        promise10SetPenalties();
        promise10StairPenalty();
        promise10ShortPenalty();
        promise11SetPage();
        promise12SetOptimal();
    }

    /** What holds of each setting with one argument. */
    private static void setting(String p, int first, int least, int greatest, Limits.NumberCall set) {
        Check.test(p + "at first it is " + first,
                () -> Check.equal("previous", set.on(new RaggedColumns(), greatest), first));
        Check.test(p + least + ", the least, is kept", () -> {
            RaggedColumns x = new RaggedColumns();
            set.on(x, least);
            Check.equal("previous", set.on(x, greatest), least);
        });
        Check.test(p + greatest + ", the greatest, is kept", () -> {
            RaggedColumns x = new RaggedColumns();
            set.on(x, greatest);
            Check.equal("previous", set.on(x, least), greatest);
        });
        Check.test(p + "each value from the least to the greatest is kept", () -> {
            RaggedColumns x = new RaggedColumns();
            set.on(x, least);
            for (int value = least + 1; value <= greatest; value++) {
                Check.equal("previous", set.on(x, value), value - 1);
            }
        });
        Limits.argument(p + "in the empty text", RaggedColumns::new, least, greatest, set);
        Limits.argument(p + "in a text of 6 words", Samples::small, least, greatest, set);
        Limits.argument(p + "in a text of 40 words", Samples::full, least, greatest, set);
        Check.test(p + "undo of " + least + ", the least",
                () -> Twins.undone(Samples::small, x -> set.on(x, least)));
        Check.test(p + "undo of " + greatest + ", the greatest",
                () -> Twins.undone(Samples::small, x -> set.on(x, greatest)));
    }

    private static void promise8SetColumn() {
        String p = "Promise 8, setColumn: ";
        setting(p, 60, 30, 100, RaggedColumns::setColumn);
        Check.test(p + "the value of before is set again and saved all the same",
                () -> Twins.undone(Samples::small, x -> x.setColumn(70)));
        Check.test(p + "a line of 30 fills the least column, one of 31 does not fit", () -> {
            RaggedColumns x = Samples.text("14,15/,14,16");
            x.setSpace(1);
            x.setColumn(30);
            Check.equal("lines", Samples.lineWidths(x), "[30, 14, 16]");
        });
        Check.test(p + "a line of 100 fills the greatest column, one of 101 does not fit", () -> {
            RaggedColumns x = Samples.text("30,30,30,4/,30,30,30,5");
            x.setColumn(100);
            x.setOptimal(false);
            Check.equal("lines", Samples.lineWidths(x), "[100, 94, 5]");
        });
    }

    private static void promise9SetSpace() {
        String p = "Promise 9, setSpace: ";
        setting(p, 2, 1, 5, RaggedColumns::setSpace);
        Check.test(p + "the value of before is set again and saved all the same",
                () -> Twins.undone(Samples::small, x -> x.setSpace(3)));
        Check.test(p + "a line of three words has two of the least spaces", () -> {
            RaggedColumns x = Samples.text("7,8,9");
            x.setSpace(1);
            Check.equal("lines", Samples.lineWidths(x), "[26]");
        });
        Check.test(p + "a line of three words has two of the greatest spaces", () -> {
            RaggedColumns x = Samples.text("7,8,9");
            x.setSpace(5);
            Check.equal("lines", Samples.lineWidths(x), "[34]");
        });
        Check.test(p + "a line of one word has no space, whatever its width", () -> {
            RaggedColumns x = Samples.text("7!,8/,9");
            x.setSpace(5);
            Check.equal("lines", Samples.lineWidths(x), "[7, 8, 9]");
        });
        Check.test(p + "the greatest space decides what fits", () -> {
            RaggedColumns x = Samples.text("30,25/,30,26");
            x.setSpace(5);
            Check.equal("lines", Samples.lineWidths(x), "[60, 30, 26]");
        });
    }

    private static void promise10SetPenalties() {
        String p = "Promise 10, setPenalties: step ";
        setting(p, 3, 1, 20, (x, step) -> x.setPenalties(step, 600, 200));
        String q = "Promise 10, setPenalties: ";
        Check.test(q + "the values of before are set again and saved all the same",
                () -> Twins.undone(Samples::small, x -> x.setPenalties(4, 600, 200)));
        Check.test(q + "all values at their least", () -> {
            RaggedColumns x = Samples.text("30!,29!,28!,14");
            Check.equal("previous step", x.setPenalties(1, 0, 0), 3);
            Check.equal("stairs", x.stairs(), 1);
            Check.equal("cost", x.cost(), 900 + 31 * 31 + 32 * 32);
        });
        Check.test(q + "all values at their greatest", () -> {
            RaggedColumns x = Samples.text("30,18!,30!,10!,14");
            x.setOptimal(false);
            Check.equal("previous step", x.setPenalties(20, 9999, 9999), 3);
            Check.equal("stairs", x.stairs(), 1);
            Check.equal("cost", x.cost(), 100 + 900 + 2500 + 9999 + 9999);
        });
        Check.test(q + "all arguments out of range",
                () -> Twins.refused(Samples::small, Twins.ARGUMENT, x -> x.setPenalties(0, -1, -1)));
        Check.test(q + "undo of a stair penalty alone",
                () -> Twins.undone(Samples::small, x -> x.setPenalties(4, 601, 200)));
        Check.test(q + "undo of a short penalty alone",
                () -> Twins.undone(Samples::small, x -> x.setPenalties(4, 600, 199)));
    }

    /** The cost of lines of 30, 20, 10 and 30 with a stair, less their slack. */
    private static int stairPenaltyOf(RaggedColumns x) {
        Samples.type(x, "30!,20!,10!,30");
        x.load();
        return x.cost() - 900 - 1600 - 2500;
    }

    private static void promise10StairPenalty() {
        String p = "Promise 10, setPenalties: stair penalty ";
        Check.test(p + "at first 500",
                () -> Check.equal("stair penalty", stairPenaltyOf(new RaggedColumns()), 500));
        for (int penalty : new int[] {0, 1, 9998, 9999}) {
            Check.test(p + penalty + " is kept", () -> {
                RaggedColumns x = new RaggedColumns();
                x.setPenalties(3, penalty, 7);
                Check.equal("stair penalty", stairPenaltyOf(x), penalty);
            });
        }
        Limits.argument(p, Samples::small, 0, 9999, (x, penalty) -> x.setPenalties(5, penalty, 9));
    }

    /** The cost of lines of 30 and 14, less their slack. */
    private static int shortPenaltyOf(RaggedColumns x) {
        Samples.type(x, "30!,14");
        x.load();
        return x.cost() - 900;
    }

    private static void promise10ShortPenalty() {
        String p = "Promise 10, setPenalties: short penalty ";
        Check.test(p + "at first 300",
                () -> Check.equal("short penalty", shortPenaltyOf(new RaggedColumns()), 300));
        for (int penalty : new int[] {0, 1, 9998, 9999}) {
            Check.test(p + penalty + " is kept", () -> {
                RaggedColumns x = new RaggedColumns();
                x.setPenalties(3, 7, penalty);
                Check.equal("short penalty", shortPenaltyOf(x), penalty);
            });
        }
        Limits.argument(p, Samples::small, 0, 9999, (x, penalty) -> x.setPenalties(5, 9, penalty));
    }

    private static void promise11SetPage() {
        String p = "Promise 11, setPage: ";
        setting(p, 6, 2, 20, RaggedColumns::setPage);
        Check.test(p + "the value of before is set again and saved all the same",
                () -> Twins.undone(Samples::small, x -> x.setPage(2)));
        Check.test(p + "pages of 2 lines, the least size",
                () -> Check.equal("pages", Samples.pageLengths(Samples.paragraphsOf(2, 1, 1, 1)),
                        "[2, 1]"));
        Check.test(p + "pages of 20 lines, the greatest size",
                () -> Check.equal("pages", Samples.pageLengths(singleLines(20, 40)), "[20, 20]"));
        Check.test(p + "pages of 6 lines at first", () -> {
            RaggedColumns x = singleLines(9, 7);
            x.undo();
            Check.equal("pages", Samples.pageLengths(x), "[6, 1]");
        });
    }

    /** Paragraphs of one line each. */
    private static RaggedColumns singleLines(int pageSize, int count) {
        int[] lineCounts = new int[count];
        java.util.Arrays.fill(lineCounts, 1);
        return Samples.paragraphsOf(pageSize, lineCounts);
    }

    private static void promise12SetOptimal() {
        String p = "Promise 12, setOptimal: ";
        Check.test(p + "at first the mode is optimal", () -> {
            Check.equal("previous", new RaggedColumns().setOptimal(true), true);
            Check.equal("lines", Samples.lineWidths(Samples.text("10,10,10,10,10,10")), "[46, 22]");
        });
        Check.test(p + "false is kept", () -> {
            RaggedColumns x = new RaggedColumns();
            Check.equal("previous", x.setOptimal(false), true);
            Check.equal("previous", x.setOptimal(false), false);
        });
        Check.test(p + "true is kept", () -> {
            RaggedColumns x = new RaggedColumns();
            x.setOptimal(false);
            Check.equal("previous", x.setOptimal(true), false);
            Check.equal("previous", x.setOptimal(true), true);
        });
        Check.test(p + "greedy lines behind false, optimal ones behind true", () -> {
            RaggedColumns x = Samples.text("10,10,10,10,10,10");
            x.setOptimal(false);
            Check.equal("lines", Samples.lineWidths(x), "[58, 10]");
            x.setOptimal(true);
            Check.equal("lines", Samples.lineWidths(x), "[46, 22]");
        });
        Check.test(p + "the mode of before is set again and saved all the same",
                () -> Twins.undone(Samples::small, x -> x.setOptimal(true)));
        Check.test(p + "undo of the other mode",
                () -> Twins.undone(Samples::small, x -> x.setOptimal(false)));
        Check.test(p + "both modes of the empty text", () -> {
            RaggedColumns x = new RaggedColumns();
            x.setOptimal(false);
            Check.equal("lines", x.lines(), 0);
            Check.equal("cost", x.cost(), 0);
        });
    }
}

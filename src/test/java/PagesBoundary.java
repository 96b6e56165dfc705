/** Boundary cases of the promises 22 to 26, and of what the terms say of pages. */
final class PagesBoundary {
    private PagesBoundary() {
    }

    static void run() {
        termsFullPages();
        termsOneLineLess();
        termsOneLineLessOnce();
        promise22Pages();
        promise23PageOf();
        promise24LinesOn();
        promise25Widows();
        promise26Orphans();
        promise26NoOrphans();
    }

    private static void pages(String name, String due, int pageSize, int... lineCounts) {
        Check.test(name, () -> {
            RaggedColumns x = Samples.paragraphsOf(pageSize, lineCounts);
            Check.equal("lines on the pages", Samples.pageLengths(x), due);
            Check.equal("pages", x.pages(), due.split(",").length);
        });
    }

    private static int[] paragraphs(int count, int lines) {
        int[] lineCounts = new int[count];
        java.util.Arrays.fill(lineCounts, lines);
        return lineCounts;
    }

    private static void termsFullPages() {
        String p = "Terms, pages: ";
        pages(p + "the least size, 2, with as many lines", "[2]", 2, 1, 1);
        pages(p + "the least size, 2, with a line more", "[2, 1]", 2, 1, 1, 1);
        pages(p + "the least size, 2, with a line less", "[1]", 2, 1);
        pages(p + "the greatest size, 20, with as many lines", "[20]", 20, paragraphs(20, 1));
        pages(p + "the greatest size, 20, with a line more", "[20, 1]", 20, paragraphs(21, 1));
        pages(p + "the greatest size, 20, with a line less", "[19]", 20, paragraphs(19, 1));
        pages(p + "none is one less where no line is left, with a last line alone", "[3]", 3, 3);
        pages(p + "none is one less where no line is left, for the last of several pages", "[3, 3]",
                3, 1, 1, 1, 3);
        pages(p + "the size at first, 6", "[6, 1]", 6, paragraphs(7, 1));
    }

    private static void termsOneLineLess() {
        String p = "Terms, pages, one line less: ";
        pages(p + "the last line would be the first one of three", "[2, 3]", 3, 2, 3);
        pages(p + "the last line would be the first one of two", "[2, 2]", 3, 2, 2);
        pages(p + "not if it is the only line of its paragraph", "[3, 3]", 3, 2, 1, 3);
        pages(p + "not if it is the second line", "[3, 2]", 3, 1, 4);
        pages(p + "the first line left would be the last one of three", "[2, 2]", 3, 1, 3);
        pages(p + "the first line left would be the last one of four", "[2, 2]", 3, 4);
        pages(p + "not if it is the only line of its paragraph, ahead of others", "[3, 2]", 3, 3, 1, 1);
        pages(p + "not if it is the last but one", "[3, 2]", 3, 5);
        pages(p + "on a page behind others", "[3, 2, 2]", 3, 7);
        pages(p + "on each of several pages", "[2, 2, 2, 2]", 3, 2, 2, 2, 2);
        pages(p + "of the greatest size, 20", "[19, 2]", 20, 21);
        pages(p + "of the greatest size, 20, not with a line more", "[20, 2]", 20, 22);
        pages(p + "of the least size, 2", "[1, 2]", 2, 3);
    }

    private static void termsOneLineLessOnce() {
        String p = "Terms, pages, one line less only once: ";
        pages(p + "the line that is the last one then is the first one of three", "[2, 3]", 3, 1, 3, 1);
        pages(p + "for two reasons, the first line of two would be the last", "[2, 2]", 3, 2, 2);
        pages(p + "a page of 2 has 1 line, not 0", "[1, 2, 1]", 2, 3, 1);
        pages(p + "in each of several paragraphs", "[1, 2, 1, 2]", 2, 3, 3);
    }

    private static void promise22Pages() {
        String p = "Promise 22, pages: ";
        Check.test(p + "0 in the empty text", () -> Check.equal("pages", new RaggedColumns().pages(), 0));
        Check.test(p + "0 behind the removal of the only word", () -> {
            RaggedColumns x = Samples.text("9");
            Check.equal("with it", x.pages(), 1);
            x.remove(0);
            Check.equal("without it", x.pages(), 0);
        });
        Check.test(p + "1 for one line", () -> Check.equal("pages", Samples.text("9").pages(), 1));
        Check.test(p + "27 for 40 lines of paragraphs of 3 on pages of 2",
                () -> Check.equal("pages", fortyLines().pages(), 27));
        Check.test(p + "2 for 40 lines on pages of 20",
                () -> Check.equal("pages", Samples.paragraphsOf(20, 40).pages(), 2));
        Check.test(p + "3 for 40 lines on pages of 19",
                () -> Check.equal("pages", Samples.paragraphsOf(19, 40).pages(), 3));
        Check.test(p + "20 for 40 lines of one paragraph on pages of 2",
                () -> Check.equal("pages", Samples.paragraphsOf(2, 40).pages(), 20));
        Check.test(p + "behind a change of the size and its undo", () -> {
            RaggedColumns x = Samples.paragraphsOf(2, 3, 1);
            Check.equal("pages of 2", x.pages(), 3);
            x.setPage(4);
            Check.equal("pages of 4", x.pages(), 1);
            x.undo();
            Check.equal("pages of 2 again", x.pages(), 3);
        });
    }

    /** 13 paragraphs of three lines and one of a line on pages of 2: pages of 1 and 2 in turn. */
    private static RaggedColumns fortyLines() {
        return Samples.paragraphsOf(2, 3, 3, 3, 3, 3, 3, 3, 3, 3, 3, 3, 3, 3, 1);
    }

    private static void promise23PageOf() {
        String p = "Promise 23, pageOf: ";
        Check.test(p + "line 0, the least, is on page 0",
                () -> Check.equal("pageOf", Samples.small().pageOf(0), 0));
        Check.test(p + "line 4 of 5, the greatest, is on the last page",
                () -> Check.equal("pageOf", Samples.small().pageOf(4), 2));
        Check.test(p + "line 39 of 40, the greatest of all, is on page 26",
                () -> Check.equal("pageOf", fortyLines().pageOf(39), 26));
        Check.test(p + "the lines on both sides of a page's end",
                () -> Check.equal("pages of lines", Samples.list(7, Samples.paragraphsOf(3, 7)::pageOf),
                        "[0, 0, 0, 1, 1, 2, 2]"));
        Check.test(p + "all lines of a full page",
                () -> Check.equal("pages of lines", Samples.list(3, Samples.paragraphsOf(3, 3)::pageOf),
                        "[0, 0, 0]"));
        Limits.index(p + "in the empty text, line", RaggedColumns::new, 0, RaggedColumns::pageOf);
        Limits.index(p + "in a text of 3 words in 1 line, line", () -> Samples.text("9,8,7"), 1,
                RaggedColumns::pageOf);
        Limits.index(p + "in a text of 5 lines, line", Samples::small, 5, RaggedColumns::pageOf);
        Limits.index(p + "in a text of 40 lines, line", PagesBoundary::fortyLines, 40,
                RaggedColumns::pageOf);
    }

    private static void promise24LinesOn() {
        String p = "Promise 24, linesOn: ";
        Check.test(p + "page 0, the least", () -> Check.equal("linesOn", Samples.small().linesOn(0), 2));
        Check.test(p + "page 2 of 3, the greatest",
                () -> Check.equal("linesOn", Samples.small().linesOn(2), 1));
        Check.test(p + "page 26 of 27, the last of 40 lines",
                () -> Check.equal("linesOn", fortyLines().linesOn(26), 1));
        Check.test(p + "the only page, full",
                () -> Check.equal("linesOn", Samples.paragraphsOf(20, 20).linesOn(0), 20));
        Check.test(p + "the greatest number of lines, 20, on both pages of 40", () -> {
            RaggedColumns x = Samples.paragraphsOf(20, 40);
            Check.equal("page 0", x.linesOn(0), 20);
            Check.equal("page 1", x.linesOn(1), 20);
        });
        Limits.index(p + "in the empty text, page", RaggedColumns::new, 0, RaggedColumns::linesOn);
        Limits.index(p + "in a text of 1 page, page", () -> Samples.paragraphsOf(6, 5), 1,
                RaggedColumns::linesOn);
        Limits.index(p + "in a text of 3 pages, page", Samples::small, 3, RaggedColumns::linesOn);
        Limits.index(p + "in a text of 27 pages, page", PagesBoundary::fortyLines, 27,
                RaggedColumns::linesOn);
    }

    private static void promise25Widows() {
        // A page that would leave a last line alone gets a line less, and a page that gets a line
        // less for its own last line leaves that one, a first line: so no widow can come about.
        String p = "Promise 25, widows: ";
        Check.test(p + "0 in the empty text", () -> Check.equal("widows", new RaggedColumns().widows(), 0));
        Check.test(p + "0 for one line", () -> Check.equal("widows", Samples.text("9").widows(), 0));
        Check.test(p + "a single line at the top of a page is none",
                () -> Check.equal("widows", Samples.paragraphsOf(2, 1, 1, 1).widows(), 0));
        Check.test(p + "a line that is no last one at the top of a page is none",
                () -> Check.equal("widows", Samples.paragraphsOf(2, 4).widows(), 0));
        Check.test(p + "a last line at the top of a page is avoided",
                () -> Check.equal("widows", Samples.paragraphsOf(3, 4).widows(), 0));
        Check.test(p + "a last line at the top of a page is avoided even by an orphan",
                () -> Check.equal("widows", Samples.paragraphsOf(2, 3).widows(), 0));
        Check.test(p + "0 in 40 lines on pages of 2",
                () -> Check.equal("widows", fortyLines().widows(), 0));
    }

    private static void orphans(String name, int due, int pageSize, int... lineCounts) {
        Check.test("Promise 26, orphans: " + name,
                () -> Check.equal("orphans", Samples.paragraphsOf(pageSize, lineCounts).orphans(), due));
    }

    private static void promise26Orphans() {
        orphans("1 where a page of 2 can't hold three lines", 1, 2, 3);
        orphans("1 where a page of 3 has a line ahead of three", 1, 3, 1, 3);
        orphans("1 where a page of 20 has 18 lines ahead of three", 1, 20, 18, 3);
        orphans("1 on the page ahead of the last one", 1, 2, 1, 1, 3);
        orphans("2 in two paragraphs", 2, 2, 3, 3);
        orphans("13 in 40 lines on pages of 2", 13, 2, 3, 3, 3, 3, 3, 3, 3, 3, 3, 3, 3, 3, 3, 1);
    }

    private static void promise26NoOrphans() {
        Check.test("Promise 26, orphans: 0 in the empty text",
                () -> Check.equal("orphans", new RaggedColumns().orphans(), 0));
        orphans("0 for one line", 0, 2, 1);
        orphans("a single line at the end of a page is none", 0, 2, 1, 1, 1, 1);
        orphans("a first line at the end of a page is avoided", 0, 3, 2, 3);
        orphans("a first line at the end of a page is avoided for two lines", 0, 3, 2, 2);
        orphans("a second line at the end of a page is none", 0, 2, 4);
        orphans("a last line at the end of a page is none", 0, 2, 2, 2);
        orphans("the last page has none, with a single line at its end", 0, 2, 2, 1);
        orphans("the only page has none", 0, 6, 3);
        Check.test("Promise 26, orphans: behind a change and its undo", () -> {
            RaggedColumns x = Samples.paragraphsOf(2, 3);
            x.setPage(3);
            Check.equal("pages of 3", x.orphans(), 0);
            x.undo();
            Check.equal("pages of 2", x.orphans(), 1);
        });
    }
}

import java.util.Arrays;
import java.util.function.IntUnaryOperator;

/** Objects for the tests, and what they answer as lists. */
final class Samples {
    /** 60 characters without an error that are no complete input text. */
    static final String SIXTY_INCOMPLETE = "1,".repeat(30);
    /** 60 characters that are an input text of 30 words. */
    static final String SIXTY_COMPLETE = "10," + "1,".repeat(28) + "1";

    private Samples() {
    }

    static void type(RaggedColumns x, String characters) {
        for (char c : characters.toCharArray()) {
            x.append(c);
        }
    }

    static RaggedColumns typed(String characters) {
        RaggedColumns x = new RaggedColumns();
        type(x, characters);
        return x;
    }

    /** An object with the words of an input text of at most 60 characters. */
    static RaggedColumns text(String inputText) {
        RaggedColumns x = typed(inputText);
        x.load();
        return x;
    }

    static RaggedColumns text(int column, int space, String inputText) {
        RaggedColumns x = text(inputText);
        x.setColumn(column);
        x.setSpace(space);
        return x;
    }

    /** The same number of words of the same width, without marks. */
    static RaggedColumns wordsOf(int count, int width) {
        RaggedColumns x = new RaggedColumns();
        for (int word = 0; word < count; word++) {
            x.insert(word, width);
        }
        return x;
    }

    static RaggedColumns fullText(int width) {
        return wordsOf(40, width);
    }

    /** A text of paragraphs with the given numbers of lines, each line one word of width 30. */
    static RaggedColumns paragraphsOf(int pageSize, int... lineCounts) {
        RaggedColumns x = new RaggedColumns();
        for (int count : lineCounts) {
            for (int line = 1; line <= count; line++) {
                x.insert(x.words(), 30);
                x.setMark(x.words() - 1, line < count ? 1 : 2);
            }
        }
        x.setPage(pageSize);
        return x;
    }

    /**
     * 6 words in 5 lines (30, 20, 10, 14 and 20 wide, the first three a stair) and 2 paragraphs on
     * 3 pages, no setting but the mode as at first, 4 characters in the buffer, 5 saved states.
     */
    static RaggedColumns small() {
        RaggedColumns x = text("30!,20!,10!,14/,9,8");
        x.setColumn(70);
        x.setSpace(3);
        x.setPenalties(4, 600, 200);
        x.setPage(2);
        type(x, "5!,7");
        return x;
    }

    /** 40 words, no setting as at first, 60 characters in the buffer, 6 saved states. */
    static RaggedColumns full() {
        String half = "9,8!,7/,6,5,4!,3,2,1/,9,8,7,6,5!,4,3,2,1,9,8";
        RaggedColumns x = text(half);
        type(x, half);
        x.load();
        x.setColumn(30);
        x.setSpace(1);
        x.setPenalties(2, 700, 400);
        x.setPage(4);
        x.setOptimal(false);
        type(x, SIXTY_INCOMPLETE);
        return x;
    }

    static String list(int count, IntUnaryOperator answer) {
        int[] answers = new int[count];
        Arrays.setAll(answers, answer);
        return Arrays.toString(answers);
    }

    static String widths(RaggedColumns x) {
        return list(x.words(), x::wordWidth);
    }

    static String marks(RaggedColumns x) {
        return list(x.words(), x::mark);
    }

    static String lineWidths(RaggedColumns x) {
        return list(x.lines(), x::lineWidth);
    }

    static String pageLengths(RaggedColumns x) {
        return list(x.pages(), x::linesOn);
    }
}

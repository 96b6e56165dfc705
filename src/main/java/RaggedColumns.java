/**
 * A formatter for ragged-right text: words, their lines and costs, pages, forecasts, input text
 * and undo. The numbered promises of its calls stand in the project's document.
 */
public final class RaggedColumns {
    /** There is no such number. */
    public static final int NONE = -1;

    private static final int MAX_WORDS = 40;
    private static final int MAX_WIDTH = 30;
    private static final int MAX_CODES = 60;
    private static final int MAX_SAVED = 6;
    private static final int MIN_COLUMN = 30;
    private static final int MAX_COLUMN = 100;
    private static final int MAX_PENALTY = 9999;
    private static final int FORCED_BREAK = 1;
    private static final int PARAGRAPH_END = 2;
    private static final long HASH_START = 8096L;

    private final Text text = new Text();
    private final Layout layout = new Layout(text);
    private final Pages pageRow = new Pages(text, layout);
    private final Text draft = new Text();
    private final Layout trial = new Layout(draft);
    private final Buffer buffer = new Buffer();
    private final History history = new History();
    private boolean isStale = true;

    /** Creates an empty text. */
    public RaggedColumns() {
    }

    // ---- words

    /** Inserts a word without a mark; returns the number of words. Undoable. */
    public int insert(int word, int width)
            throws IndexOutOfBoundsException, IllegalArgumentException, IllegalStateException {
        requireIndex(word, text.size + 1);
        requireRange(width, 1, MAX_WIDTH);
        if (text.size >= MAX_WORDS) {
            throw new IllegalStateException("the text is full");
        }
        prepareChange();
        text.putWord(word, width, 0);
        return text.size;
    }

    /** Removes a word and its mark; returns its width. Undoable. */
    public int remove(int word) throws IndexOutOfBoundsException {
        requireIndex(word, text.size);
        prepareChange();
        int width = text.widths.at(word);
        text.dropWord(word);
        return width;
    }

    /** Changes the mark of a word; returns the previous one. Undoable. */
    public int setMark(int word, int mark)
            throws IndexOutOfBoundsException, IllegalArgumentException {
        requireIndex(word, text.size);
        requireRange(mark, 0, PARAGRAPH_END);
        prepareChange();
        int previous = text.marks.at(word);
        text.marks.put(word, mark);
        return previous;
    }

    /** Returns the number of words. */
    public int words() {
        return text.size;
    }

    /** Returns the width of a word. */
    public int wordWidth(int word) throws IndexOutOfBoundsException {
        requireIndex(word, text.size);
        return text.widths.at(word);
    }

    /** Returns the mark of a word. */
    public int mark(int word) throws IndexOutOfBoundsException {
        requireIndex(word, text.size);
        return text.marks.at(word);
    }

    // ---- settings

    /** Sets the width of the column; returns the previous one. Undoable. */
    public int setColumn(int width) throws IllegalArgumentException {
        requireRange(width, MIN_COLUMN, MAX_COLUMN);
        prepareChange();
        int previous = text.column;
        text.column = width;
        return previous;
    }

    /** Sets the width of a space; returns the previous one. Undoable. */
    public int setSpace(int width) throws IllegalArgumentException {
        requireRange(width, 1, 5);
        prepareChange();
        int previous = text.space;
        text.space = width;
        return previous;
    }

    /** Sets the step and the two penalties; returns the previous step. Undoable. */
    public int setPenalties(int step, int stairPenalty, int shortPenalty)
            throws IllegalArgumentException {
        requireRange(step, 1, 20);
        requireRange(stairPenalty, 0, MAX_PENALTY);
        requireRange(shortPenalty, 0, MAX_PENALTY);
        prepareChange();
        int previous = text.step;
        text.step = step;
        text.stairPenalty = stairPenalty;
        text.shortPenalty = shortPenalty;
        return previous;
    }

    /** Sets the size of a page; returns the previous one. Undoable. */
    public int setPage(int lines) throws IllegalArgumentException {
        requireRange(lines, 2, 20);
        prepareChange();
        int previous = text.pageSize;
        text.pageSize = lines;
        return previous;
    }

    /** Sets the mode; returns whether it was optimal. Undoable. */
    public boolean setOptimal(boolean isOptimal) {
        prepareChange();
        boolean previous = text.isOptimal;
        text.isOptimal = isOptimal;
        return previous;
    }

    // ---- lines

    /** Returns the number of lines. */
    public int lines() {
        refresh();
        return layout.size;
    }

    /** Returns the line of a word. */
    public int lineOf(int word) throws IndexOutOfBoundsException {
        requireIndex(word, text.size);
        refresh();
        return layout.lineOfWord.at(word);
    }

    /** Returns the first word of a line. */
    public int firstWord(int line) throws IndexOutOfBoundsException {
        refresh();
        requireIndex(line, layout.size);
        return layout.starts.at(line);
    }

    /** Returns the width of a line. */
    public int lineWidth(int line) throws IndexOutOfBoundsException {
        refresh();
        requireIndex(line, layout.size);
        return layout.widthOfLine(line);
    }

    /** Returns the direction of the stair whose second line a line is, or 0. */
    public int stairAt(int line) throws IndexOutOfBoundsException {
        refresh();
        requireIndex(line, layout.size);
        return layout.stairAround(line);
    }

    /** Tells why a line ends behind a word, 0 if none does. */
    public int reason(int word) throws IndexOutOfBoundsException {
        requireIndex(word, text.size);
        refresh();
        return layout.reasonBehind(word);
    }

    /** Returns the number of paragraphs. */
    public int paragraphs() {
        return text.countParagraphs();
    }

    /** Returns the number of stairs. */
    public int stairs() {
        refresh();
        return layout.countStairs();
    }

    /** Returns the cost of the text. */
    public int cost() {
        refresh();
        return layout.totalCost();
    }

    // ---- pages

    /** Returns the number of pages. */
    public int pages() {
        refresh();
        return pageRow.size;
    }

    /** Returns the page of a line. */
    public int pageOf(int line) throws IndexOutOfBoundsException {
        refresh();
        requireIndex(line, layout.size);
        return pageRow.pageOfLine.at(line);
    }

    /** Returns the number of lines on a page. */
    public int linesOn(int page) throws IndexOutOfBoundsException {
        refresh();
        requireIndex(page, pageRow.size);
        return pageRow.starts.at(page + 1) - pageRow.starts.at(page);
    }

    /** Returns the number of widows. */
    public int widows() {
        refresh();
        return pageRow.countWidows();
    }

    /** Returns the number of orphans. */
    public int orphans() {
        refresh();
        return pageRow.countOrphans();
    }

    // ---- forecasts; they change nothing

    /** Returns what the text would cost in a column of another width. */
    public int costFor(int width, boolean isOptimal) throws IllegalArgumentException {
        requireRange(width, MIN_COLUMN, MAX_COLUMN);
        draft.copyFrom(text);
        draft.column = width;
        trial.arrange(isOptimal);
        return trial.totalCost();
    }

    /** Returns the least width from low to high for which the optimal layouts cost least. */
    public int bestColumn(int low, int high) throws IllegalArgumentException {
        requireRange(low, MIN_COLUMN, MAX_COLUMN);
        requireRange(high, low, MAX_COLUMN);
        draft.copyFrom(text);
        int best = low;
        int leastCost = Integer.MAX_VALUE;
        // No cost is less than 0: behind such a width the rest need not be tried.
        for (int width = low; width <= high && leastCost > 0; width++) {
            draft.column = width;
            trial.arrange(true);
            int widthCost = trial.totalCost();
            if (widthCost < leastCost) {
                leastCost = widthCost;
                best = width;
            }
        }
        return best;
    }

    /** Returns the cost with greedy layouts minus the cost with optimal ones. */
    public int saving() {
        draft.copyFrom(text);
        trial.arrange(false);
        int greedyCost = trial.totalCost();
        trial.arrange(true);
        return greedyCost - trial.totalCost();
    }

    /** Returns what the text would cost in the present mode if a word had another mark. */
    public int costIfMarked(int word, int mark)
            throws IndexOutOfBoundsException, IllegalArgumentException {
        requireIndex(word, text.size);
        requireRange(mark, 0, PARAGRAPH_END);
        draft.copyFrom(text);
        draft.marks.put(word, mark);
        trial.arrange(draft.isOptimal);
        return trial.totalCost();
    }

    // ---- input text

    /** Appends a character to the buffer; returns its new length. */
    public int append(int code) throws IllegalArgumentException, IllegalStateException {
        requireRange(code, 33, 126);
        if (buffer.length >= MAX_CODES) {
            throw new IllegalStateException("the buffer is full");
        }
        buffer.add(code);
        return buffer.length;
    }

    /** Empties the buffer; returns the length that it had. */
    public int clearText() {
        int previous = buffer.length;
        buffer.length = 0;
        return previous;
    }

    /** Returns the index of the first error of the buffer, or its length. */
    public int firstError() {
        return buffer.scan();
    }

    /** Adds the words of the buffer behind the last word; returns the number of words. Undoable. */
    public int load() throws IllegalArgumentException, IllegalStateException {
        if (buffer.scan() < buffer.length || !buffer.endsInWord()) {
            throw new IllegalArgumentException("the buffer is not an input text");
        }
        if (text.size + buffer.countWords() > MAX_WORDS) {
            throw new IllegalStateException("there would be too many words");
        }
        prepareChange();
        for (int word = 0; word < buffer.countWords(); word++) {
            text.putWord(text.size, buffer.widths.at(word), buffer.marks.at(word));
        }
        buffer.length = 0;
        return text.size;
    }

    // ---- undo

    /** Restores the state that was saved last; returns the number of those left. */
    public int undo() throws IllegalStateException {
        if (history.size <= 0) {
            throw new IllegalStateException("no state is saved");
        }
        history.restore(text);
        isStale = true;
        return history.size;
    }

    /** Returns the number of saved states. */
    public int savedStates() {
        return history.size;
    }

    /** Returns a hash of the state. */
    public long digest() {
        refresh();
        long hash = HASH_START;
        hash = mix(hash, text.size);
        hash = mix(hash, layout.size);
        hash = mix(hash, text.countParagraphs());
        hash = mix(hash, layout.countStairs());
        hash = mix(hash, layout.totalCost());
        hash = mix(hash, pageRow.size);
        hash = mix(hash, pageRow.countWidows());
        hash = mix(hash, pageRow.countOrphans());
        hash = mix(hash, saving());
        for (int word = 0; word < text.size; word++) {
            hash = mix(hash, text.widths.at(word));
            hash = mix(hash, text.marks.at(word));
            hash = mix(hash, layout.lineOfWord.at(word));
            hash = mix(hash, layout.reasonBehind(word));
        }
        for (int line = 0; line < layout.size; line++) {
            hash = mix(hash, layout.widthOfLine(line));
            hash = mix(hash, pageRow.pageOfLine.at(line));
        }
        return hash;
    }

    private static long mix(long hash, int value) {
        return 31L * hash + value;
    }

    private static void requireIndex(int index, int count) {
        if (index < 0 || index >= count) {
            throw new IndexOutOfBoundsException("there is no such number");
        }
    }

    private static void requireRange(int value, int low, int high) {
        if (value < low || value > high) {
            throw new IllegalArgumentException("an argument is out of range");
        }
    }

    private void prepareChange() {
        history.save(text);
        isStale = true;
    }

    /** Arranges lines and pages anew if a call has changed the state since. */
    private void refresh() {
        if (isStale) {
            layout.arrange(text.isOptimal);
            pageRow.fill();
            isStale = false;
        }
    }

    /** Numbers in a row of fixed length; outside of it every number is 0 and stays so. */
    private static final class Row {
        private final int[] cells;

        Row(int length) {
            cells = new int[Math.max(length, 0)];
        }

        int at(int index) {
            return index >= 0 && index < cells.length ? cells[index] : 0;
        }

        void put(int index, int value) {
            if (index >= 0 && index < cells.length) {
                cells[index] = value;
            }
        }

        void copyFrom(Row other) {
            for (int i = 0; i < cells.length; i++) {
                cells[i] = other.at(i);
            }
        }

        void putBetween(int index, int value) {
            for (int i = cells.length - 1; i > index; i--) {
                put(i, at(i - 1));
            }
            put(index, value);
        }

        void dropAt(int index) {
            for (int i = index; i < cells.length; i++) {
                put(i, at(i + 1));
            }
        }
    }

    /** The words with their marks, and the settings: all that undo brings back. */
    private static final class Text {
        private final Row widths = new Row(MAX_WORDS);
        private final Row marks = new Row(MAX_WORDS);
        private int size = 0;
        private int column = 60;
        private int space = 2;
        private int step = 3;
        private int stairPenalty = 500;
        private int shortPenalty = 300;
        private int pageSize = 6;
        private boolean isOptimal = true;

        void copyFrom(Text other) {
            widths.copyFrom(other.widths);
            marks.copyFrom(other.marks);
            size = other.size;
            column = other.column;
            space = other.space;
            step = other.step;
            stairPenalty = other.stairPenalty;
            shortPenalty = other.shortPenalty;
            pageSize = other.pageSize;
            isOptimal = other.isOptimal;
        }

        void putWord(int word, int width, int wordMark) {
            if (size < MAX_WORDS) {
                widths.putBetween(word, width);
                marks.putBetween(word, wordMark);
                size++;
            }
        }

        void dropWord(int word) {
            if (size > 0) {
                widths.dropAt(word);
                marks.dropAt(word);
                size--;
            }
        }

        boolean endsParagraph(int word) {
            return marks.at(word) == PARAGRAPH_END || word == size - 1;
        }

        int countParagraphs() {
            int count = 0;
            for (int word = 0; word < size; word++) {
                if (endsParagraph(word)) {
                    count++;
                }
            }
            return count;
        }

        int slackCost(int lineWidth) {
            int slack = column - lineWidth;
            return slack * slack;
        }

        int lastLineCost(int lineWidth, boolean isOnlyLine) {
            return !isOnlyLine && 4 * lineWidth < column ? shortPenalty : 0;
        }

        /** Returns -1 if the next line is narrower by at least the step, 1 if so wider, or 0. */
        int turn(int lineWidth, int nextWidth) {
            if (nextWidth <= lineWidth - step) {
                return -1;
            }
            return nextWidth >= lineWidth + step ? 1 : 0;
        }
    }

    /** How far the lines of a text may reach, and how wide they are. */
    private static final class Fit {
        private final Text text;
        private final Row sums = new Row(MAX_WORDS + 1);
        /** For each word the number of the word behind the longest line that begins with it. */
        private final Row reach = new Row(MAX_WORDS);

        Fit(Text text) {
            this.text = text;
        }

        void measure() {
            for (int word = 0; word < text.size; word++) {
                sums.put(word + 1, sums.at(word) + text.widths.at(word));
            }
            for (int word = 0; word < text.size; word++) {
                reach.put(word, longestLineEnd(word));
            }
        }

        private int longestLineEnd(int start) {
            int end = start + 1;
            while (end < text.size && text.marks.at(end - 1) == 0
                    && widthBetween(start, end + 1) <= text.column) {
                end++;
            }
            return end;
        }

        /** The width of a line from the word start to the word before end. */
        int widthBetween(int start, int end) {
            return sums.at(end) - sums.at(start) + text.space * (end - start - 1);
        }
    }

    /**
     * The optimal layouts of a text. From the last word back, the best end of a line is found for
     * each beginning of it, each beginning of the line before it, and each turn into that line
     * before it: on more than these three the cost of the lines from there on does not depend.
     * For the first line of a paragraph the line before it begins where it begins itself.
     */
    private static final class Optimal {
        private static final int TURNS = 3;
        private static final int SLOTS = MAX_WORDS * (MAX_WORDS + 1) / 2 * TURNS;
        /** A score is a cost times this plus a number of lines, so that cost weighs more. */
        private static final int COST_WEIGHT = 64;

        private final Text text;
        private final Fit fit;
        private final Row scores = new Row(SLOTS);
        private final Row choices = new Row(SLOTS);
        /** For each word that begins a line the number of the word behind this line. */
        private final Row ends = new Row(MAX_WORDS);

        Optimal(Text text, Fit fit) {
            this.text = text;
            this.fit = fit;
        }

        /** Finds the ends of the lines of the paragraph of the words from start to end - 1. */
        void solve(int start, int end) {
            for (int begin = end - 1; begin > start; begin--) {
                for (int before = start; before < begin; before++) {
                    if (fit.reach.at(before) >= begin) {
                        weigh(before, begin, end);
                    }
                }
            }
            weigh(start, start, end);
            follow(start, end);
        }

        private void weigh(int before, int begin, int paragraphEnd) {
            for (int turnBefore = -1; turnBefore <= 1; turnBefore++) {
                scores.put(slot(before, begin, turnBefore), Integer.MAX_VALUE);
            }
            int widthBefore = fit.widthBetween(before, begin);
            // Longer lines come first, so that among equal scores the one with most words stays.
            for (int end = fit.reach.at(begin); end > begin; end--) {
                int width = fit.widthBetween(begin, end);
                int turn = 0;
                int score = 1;
                if (end == paragraphEnd) {
                    score += COST_WEIGHT * text.lastLineCost(width, before == begin);
                } else {
                    turn = before == begin ? 0 : text.turn(widthBefore, width);
                    score += COST_WEIGHT * text.slackCost(width) + scores.at(slot(begin, end, turn));
                }
                for (int turnBefore = -1; turnBefore <= 1; turnBefore++) {
                    boolean isStair = turn != 0 && turn == turnBefore;
                    int stairScore = isStair ? COST_WEIGHT * text.stairPenalty : 0;
                    offer(slot(before, begin, turnBefore), score + stairScore, end);
                }
            }
        }

        private void offer(int slot, int score, int end) {
            if (score < scores.at(slot)) {
                scores.put(slot, score);
                choices.put(slot, end);
            }
        }

        private void follow(int start, int paragraphEnd) {
            int before = start;
            int begin = start;
            int turn = 0;
            for (int word = start; word < paragraphEnd; word++) {
                if (word == begin) {
                    int end = choices.at(slot(before, begin, turn));
                    ends.put(begin, end);
                    int widthBefore = fit.widthBetween(before, begin);
                    int width = fit.widthBetween(begin, end);
                    turn = before == begin ? 0 : text.turn(widthBefore, width);
                    before = begin;
                    begin = end;
                }
            }
        }

        private static int slot(int before, int begin, int turn) {
            return (begin * (begin + 1) / 2 + before) * TURNS + turn + 1;
        }
    }

    /** The lines of a text, greedy or optimal. */
    private static final class Layout {
        private final Text text;
        private final Fit fit;
        private final Optimal optimal;
        /** The first word of each line, and behind the last line the number of words. */
        private final Row starts = new Row(MAX_WORDS + 1);
        private final Row lineOfWord = new Row(MAX_WORDS);
        private int size = 0;

        Layout(Text text) {
            this.text = text;
            fit = new Fit(text);
            optimal = new Optimal(text, fit);
        }

        void arrange(boolean isOptimal) {
            fit.measure();
            int start = 0;
            for (int word = 0; isOptimal && word < text.size; word++) {
                if (text.endsParagraph(word)) {
                    optimal.solve(start, word + 1);
                    start = word + 1;
                }
            }
            // A greedy line ends where the longest line does.
            takeLines(isOptimal ? optimal.ends : fit.reach);
        }

        private void takeLines(Row ends) {
            size = 0;
            int next = 0;
            for (int word = 0; word < text.size; word++) {
                if (word == next) {
                    starts.put(size, word);
                    size++;
                    next = ends.at(word);
                }
                lineOfWord.put(word, size - 1);
            }
            starts.put(size, text.size);
        }

        int widthOfLine(int line) {
            return fit.widthBetween(starts.at(line), starts.at(line + 1));
        }

        boolean isFirstOfParagraph(int line) {
            int start = starts.at(line);
            return start == 0 || text.endsParagraph(start - 1);
        }

        boolean isLastOfParagraph(int line) {
            return text.endsParagraph(starts.at(line + 1) - 1);
        }

        /** Tells whether a line is the first one of a paragraph with several lines. */
        boolean opensParagraph(int line) {
            return isFirstOfParagraph(line) && !isLastOfParagraph(line);
        }

        /** Tells whether a line is the last one of a paragraph with several lines. */
        boolean closesParagraph(int line) {
            return isLastOfParagraph(line) && !isFirstOfParagraph(line);
        }

        int stairAround(int line) {
            if (isFirstOfParagraph(line) || isLastOfParagraph(line) || isLastOfParagraph(line + 1)) {
                return 0;
            }
            int turn = text.turn(widthOfLine(line - 1), widthOfLine(line));
            return turn == text.turn(widthOfLine(line), widthOfLine(line + 1)) ? turn : 0;
        }

        int countStairs() {
            int count = 0;
            for (int line = 0; line < size; line++) {
                if (stairAround(line) != 0) {
                    count++;
                }
            }
            return count;
        }

        int totalCost() {
            int total = 0;
            for (int line = 0; line < size; line++) {
                int width = widthOfLine(line);
                total += isLastOfParagraph(line)
                        ? text.lastLineCost(width, isFirstOfParagraph(line)) : text.slackCost(width);
                total += stairAround(line) != 0 ? text.stairPenalty : 0;
            }
            return total;
        }

        int reasonBehind(int word) {
            int line = lineOfWord.at(word);
            if (starts.at(line + 1) != word + 1) {
                return 0;
            }
            if (text.endsParagraph(word)) {
                return 1;
            }
            if (text.marks.at(word) == FORCED_BREAK) {
                return 2;
            }
            return fit.widthBetween(starts.at(line), word + 2) > text.column ? 3 : 4;
        }
    }

    /** The pages of a layout. */
    private static final class Pages {
        private final Text text;
        private final Layout layout;
        /** The first line of each page, and behind the last page the number of lines. */
        private final Row starts = new Row(MAX_WORDS + 1);
        private final Row pageOfLine = new Row(MAX_WORDS);
        private int size = 0;

        Pages(Text text, Layout layout) {
            this.text = text;
            this.layout = layout;
        }

        void fill() {
            size = 0;
            int next = 0;
            for (int line = 0; line < layout.size; line++) {
                if (line == next) {
                    starts.put(size, line);
                    size++;
                    next = line + text.pageSize;
                    boolean isSplitBadly = next < layout.size
                            && (layout.opensParagraph(next - 1) || layout.closesParagraph(next));
                    next = isSplitBadly ? next - 1 : next;
                }
                pageOfLine.put(line, size - 1);
            }
            starts.put(size, layout.size);
        }

        int countWidows() {
            int count = 0;
            for (int page = 1; page < size; page++) {
                if (layout.closesParagraph(starts.at(page))) {
                    count++;
                }
            }
            return count;
        }

        int countOrphans() {
            int count = 0;
            for (int page = 0; page < size - 1; page++) {
                if (layout.opensParagraph(starts.at(page + 1) - 1)) {
                    count++;
                }
            }
            return count;
        }
    }

    /** The characters of the buffer, and the words that were read from them. */
    private static final class Buffer {
        private final Row codes = new Row(MAX_CODES);
        private final Row widths = new Row(MAX_CODES);
        private final Row marks = new Row(MAX_CODES);
        private int length = 0;
        private int lastWord = 0;

        void add(int code) {
            if (length < MAX_CODES) {
                codes.put(length, code);
                length++;
            }
        }

        /** Reads the words up to the first error; returns its index, or the length. */
        int scan() {
            beginWord(0);
            for (int i = 0; i < length; i++) {
                if (!take(codes.at(i))) {
                    return i;
                }
            }
            return length;
        }

        boolean endsInWord() {
            return widths.at(lastWord) > 0;
        }

        int countWords() {
            return lastWord + 1;
        }

        private void beginWord(int word) {
            lastWord = word;
            widths.put(word, 0);
            marks.put(word, 0);
        }

        private boolean take(int code) {
            if (code >= '0' && code <= '9') {
                return takeDigit(code - '0');
            }
            if (!endsInWord()) {
                return false;
            }
            if (code == ',') {
                beginWord(lastWord + 1);
                return true;
            }
            if (code == '!') {
                return takeMark(FORCED_BREAK);
            }
            return code == '/' && takeMark(PARAGRAPH_END);
        }

        private boolean takeDigit(int digit) {
            int width = 10 * widths.at(lastWord) + digit;
            // A leading zero leaves the width at 0, so that it is refused as too small.
            if (marks.at(lastWord) != 0 || width < 1 || width > MAX_WIDTH) {
                return false;
            }
            widths.put(lastWord, width);
            return true;
        }

        private boolean takeMark(int wordMark) {
            if (marks.at(lastWord) != 0) {
                return false;
            }
            marks.put(lastWord, wordMark);
            return true;
        }
    }

    /** The saved states, the oldest one first. */
    private static final class History {
        private final Text[] states = new Text[MAX_SAVED];
        private int size = 0;

        History() {
            for (int i = 0; i < states.length; i++) {
                states[i] = new Text();
            }
        }

        void save(Text text) {
            if (size >= states.length) {
                dropOldest();
            }
            Text state = stateAt(size);
            if (state != null) {
                state.copyFrom(text);
                size++;
            }
        }

        void restore(Text text) {
            Text state = stateAt(size - 1);
            if (state != null) {
                text.copyFrom(state);
                size--;
            }
        }

        private Text stateAt(int index) {
            return index >= 0 && index < states.length ? states[index] : null;
        }

        /** Moves the oldest state behind the others, where its object is used again. */
        private void dropOldest() {
            Text oldest = stateAt(0);
            for (int i = 1; i < states.length; i++) {
                states[i - 1] = states[i];
            }
            if (states.length > 0) {
                states[states.length - 1] = oldest;
                size = states.length - 1;
            }
        }
    }
}

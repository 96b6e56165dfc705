import java.util.ArrayDeque;
import java.util.ArrayList;
import java.util.Deque;
import java.util.HashMap;
import java.util.List;
import java.util.Map;

/**
 * The document's face, written a second time from its words alone and with other means than the
 * program: texts are lists, layouts are compared whole, input texts are matched by a pattern.
 */
final class Oracle {
    private static final String WORD = "(?:[12][0-9]|30|[1-9])[!/]?";
    private static final String INPUT_TEXT = WORD + "(?:," + WORD + ")*";
    private static final String BEGINNING = "(?:" + WORD + ",)*(?:" + WORD + ")?";
    /** Up to this number of words every layout is looked at, without any shortcut. */
    private static final int FEW_WORDS = 11;

    private record Word(int width, int mark) {
    }

    private record Setting(int column, int space, int step, int stairPenalty, int shortPenalty,
            int page, boolean isOptimal) {
        Setting withColumn(int other) {
            return new Setting(other, space, step, stairPenalty, shortPenalty, page, isOptimal);
        }
    }

    private record State(List<Word> words, Setting setting) {
    }

    /** A line by its first word, the word behind it, and where it stands in its paragraph. */
    private record Line(int start, int end, boolean isFirst, boolean isLast, int width) {
        boolean isOnly() {
            return isFirst && isLast;
        }
    }

    private State state = new State(List.of(), new Setting(60, 2, 3, 500, 300, 6, true));
    private final Deque<State> saved = new ArrayDeque<>();
    private String buffer = "";

    // ---- words

    public int insert(int word, int width) {
        needIndex(word >= 0 && word <= words());
        needArgument(width >= 1 && width <= 30);
        needState(words() < 40);
        List<Word> list = new ArrayList<>(state.words);
        list.add(word, new Word(width, 0));
        change(new State(list, state.setting));
        return words();
    }

    public int remove(int word) {
        needWord(word);
        List<Word> list = new ArrayList<>(state.words);
        Word removed = list.remove(word);
        change(new State(list, state.setting));
        return removed.width;
    }

    public int setMark(int word, int mark) {
        needWord(word);
        needArgument(mark >= 0 && mark <= 2);
        int previous = state.words.get(word).mark;
        change(marked(word, mark));
        return previous;
    }

    public int words() {
        return state.words.size();
    }

    public int wordWidth(int word) {
        needWord(word);
        return state.words.get(word).width;
    }

    public int mark(int word) {
        needWord(word);
        return state.words.get(word).mark;
    }

    // ---- settings

    public int setColumn(int width) {
        needArgument(width >= 30 && width <= 100);
        int previous = state.setting.column;
        change(new State(state.words, state.setting.withColumn(width)));
        return previous;
    }

    public int setSpace(int width) {
        needArgument(width >= 1 && width <= 5);
        Setting s = state.setting;
        change(new State(state.words, new Setting(
                s.column, width, s.step, s.stairPenalty, s.shortPenalty, s.page, s.isOptimal)));
        return s.space;
    }

    public int setPenalties(int step, int stairPenalty, int shortPenalty) {
        needArgument(step >= 1 && step <= 20);
        needArgument(stairPenalty >= 0 && stairPenalty <= 9999);
        needArgument(shortPenalty >= 0 && shortPenalty <= 9999);
        Setting s = state.setting;
        change(new State(state.words, new Setting(
                s.column, s.space, step, stairPenalty, shortPenalty, s.page, s.isOptimal)));
        return s.step;
    }

    public int setPage(int lines) {
        needArgument(lines >= 2 && lines <= 20);
        Setting s = state.setting;
        change(new State(state.words, new Setting(
                s.column, s.space, s.step, s.stairPenalty, s.shortPenalty, lines, s.isOptimal)));
        return s.page;
    }

    public boolean setOptimal(boolean isOptimal) {
        Setting s = state.setting;
        change(new State(state.words, new Setting(
                s.column, s.space, s.step, s.stairPenalty, s.shortPenalty, s.page, isOptimal)));
        return s.isOptimal;
    }

    // ---- lines

    public int lines() {
        return layout().size();
    }

    public int lineOf(int word) {
        needWord(word);
        List<Line> layout = layout();
        for (int i = 0; i < layout.size(); i++) {
            if (word >= layout.get(i).start && word < layout.get(i).end) {
                return i;
            }
        }
        throw new AssertionError("a word without a line");
    }

    public int firstWord(int line) {
        needLine(line);
        return layout().get(line).start;
    }

    public int lineWidth(int line) {
        needLine(line);
        return layout().get(line).width;
    }

    public int stairAt(int line) {
        needLine(line);
        return line == 0 ? 0 : stairFrom(layout(), line - 1, state.setting);
    }

    public int reason(int word) {
        needWord(word);
        Line line = layout().get(lineOf(word));
        if (line.end != word + 1) {
            return 0;
        }
        if (line.isLast) {
            return 1;
        }
        if (state.words.get(word).mark == 1) {
            return 2;
        }
        return width(state, line.start, line.end + 1) > state.setting.column ? 3 : 4;
    }

    public int paragraphs() {
        return paragraphsOf(state).size();
    }

    public int stairs() {
        List<Line> layout = layout();
        int count = 0;
        for (int i = 0; i < layout.size(); i++) {
            count += stairFrom(layout, i, state.setting) != 0 ? 1 : 0;
        }
        return count;
    }

    public int cost() {
        return costOf(state, state.setting.isOptimal);
    }

    // ---- pages

    public int pages() {
        return pageStarts().size();
    }

    public int pageOf(int line) {
        needLine(line);
        List<Integer> starts = pageStarts();
        int page = 0;
        while (page + 1 < starts.size() && starts.get(page + 1) <= line) {
            page++;
        }
        return page;
    }

    public int linesOn(int page) {
        List<Integer> starts = pageStarts();
        needIndex(page >= 0 && page < starts.size());
        return (page + 1 < starts.size() ? starts.get(page + 1) : lines()) - starts.get(page);
    }

    public int widows() {
        List<Line> layout = layout();
        List<Integer> starts = pageStarts();
        int count = 0;
        for (int page = 1; page < starts.size(); page++) {
            Line line = layout.get(starts.get(page));
            count += line.isLast && !line.isOnly() ? 1 : 0;
        }
        return count;
    }

    public int orphans() {
        List<Line> layout = layout();
        List<Integer> starts = pageStarts();
        int count = 0;
        for (int page = 1; page < starts.size(); page++) {
            Line line = layout.get(starts.get(page) - 1);
            count += line.isFirst && !line.isOnly() ? 1 : 0;
        }
        return count;
    }

    // ---- forecasts

    public int costFor(int width, boolean isOptimal) {
        needArgument(width >= 30 && width <= 100);
        return costOf(new State(state.words, state.setting.withColumn(width)), isOptimal);
    }

    public int bestColumn(int low, int high) {
        needArgument(low >= 30 && low <= 100);
        needArgument(high >= low && high <= 100);
        int best = high;
        for (int width = high; width >= low; width--) {
            best = costFor(width, true) <= costFor(best, true) ? width : best;
        }
        return best;
    }

    public int saving() {
        return costOf(state, false) - costOf(state, true);
    }

    public int costIfMarked(int word, int mark) {
        needWord(word);
        needArgument(mark >= 0 && mark <= 2);
        return costOf(marked(word, mark), state.setting.isOptimal);
    }

    // ---- input text

    public int append(int code) {
        needArgument(code >= 33 && code <= 126);
        needState(buffer.length() < 60);
        buffer += (char) code;
        return buffer.length();
    }

    public int clearText() {
        int length = buffer.length();
        buffer = "";
        return length;
    }

    public int firstError() {
        int length = 0;
        while (length < buffer.length() && buffer.substring(0, length + 1).matches(BEGINNING)) {
            length++;
        }
        return length;
    }

    public int load() {
        needArgument(buffer.matches(INPUT_TEXT));
        List<Word> list = new ArrayList<>(state.words);
        for (String word : buffer.split(",")) {
            int mark = word.endsWith("!") ? 1 : word.endsWith("/") ? 2 : 0;
            list.add(new Word(Integer.parseInt(word.replaceAll("[!/]", "")), mark));
        }
        needState(list.size() <= 40);
        change(new State(list, state.setting));
        buffer = "";
        return words();
    }

    // ---- undo

    public int undo() {
        needState(!saved.isEmpty());
        state = saved.removeLast();
        return saved.size();
    }

    public int savedStates() {
        return saved.size();
    }

    public long digest() {
        List<Integer> values = new ArrayList<>(List.of(
                words(), lines(), paragraphs(), stairs(), cost(), pages(), widows(), orphans()));
        values.add(saving());
        for (int word = 0; word < words(); word++) {
            values.addAll(List.of(wordWidth(word), mark(word), lineOf(word), reason(word)));
        }
        for (int line = 0; line < lines(); line++) {
            values.addAll(List.of(lineWidth(line), pageOf(line)));
        }
        long hash = 8096;
        for (int value : values) {
            hash = 31 * hash + value;
        }
        return hash;
    }

    // ---- what the answers are made of

    private void change(State next) {
        saved.addLast(state);
        if (saved.size() > 6) {
            saved.removeFirst();
        }
        state = next;
    }

    private State marked(int word, int mark) {
        List<Word> list = new ArrayList<>(state.words);
        list.set(word, new Word(list.get(word).width, mark));
        return new State(list, state.setting);
    }

    private static List<int[]> paragraphsOf(State state) {
        List<int[]> paragraphs = new ArrayList<>();
        int start = 0;
        for (int word = 0; word < state.words.size(); word++) {
            if (state.words.get(word).mark == 2 || word + 1 == state.words.size()) {
                paragraphs.add(new int[] {start, word + 1});
                start = word + 1;
            }
        }
        return paragraphs;
    }

    private static int width(State state, int start, int end) {
        int width = -state.setting.space;
        for (Word word : state.words.subList(start, end)) {
            width += word.width + state.setting.space;
        }
        return width;
    }

    private static boolean isLine(State state, int start, int end) {
        for (Word word : state.words.subList(start, end - 1)) {
            if (word.mark != 0) {
                return false;
            }
        }
        return width(state, start, end) <= state.setting.column;
    }

    private Map<State, List<Line>> known = new HashMap<>();

    private List<Line> layout() {
        return layoutOf(state, state.setting.isOptimal);
    }

    private List<Line> layoutOf(State text, boolean isOptimal) {
        Setting s = text.setting;
        State key = new State(text.words, new Setting(
                s.column, s.space, s.step, s.stairPenalty, s.shortPenalty, s.page, isOptimal));
        if (known.size() > 200) {
            known = new HashMap<>();
        }
        return known.computeIfAbsent(key, Oracle::arranged);
    }

    private static List<Line> arranged(State text) {
        List<Line> layout = new ArrayList<>();
        for (int[] paragraph : paragraphsOf(text)) {
            if (!text.setting.isOptimal) {
                layout.addAll(greedy(text, paragraph[0], paragraph[1]));
            } else if (paragraph[1] - paragraph[0] <= FEW_WORDS) {
                layout.addAll(bestOfAll(text, paragraph[0], paragraph[1]));
            } else {
                layout.addAll(new Search(text, paragraph[0], paragraph[1]).best());
            }
        }
        return layout;
    }

    private static Line line(State text, int from, int to, int start, int end) {
        return new Line(start, end, start == from, end == to, width(text, start, end));
    }

    private static List<Line> greedy(State text, int from, int to) {
        List<Line> layout = new ArrayList<>();
        int start = from;
        while (start < to) {
            int end = start + 1;
            while (end < to && isLine(text, start, end + 1)) {
                end++;
            }
            layout.add(line(text, from, to, start, end));
            start = end;
        }
        return layout;
    }

    private static List<Line> bestOfAll(State text, int from, int to) {
        List<Line> best = null;
        // Each bit of the number tells whether a line ends behind a word.
        for (int ends = 0; ends < 1 << (to - from - 1); ends++) {
            List<Line> layout = new ArrayList<>();
            int start = from;
            boolean isPossible = true;
            for (int word = from; word < to; word++) {
                if (word + 1 == to || (ends >> (word - from) & 1) == 1) {
                    isPossible &= isLine(text, start, word + 1);
                    layout.add(line(text, from, to, start, word + 1));
                    start = word + 1;
                }
            }
            if (isPossible && (best == null || isBetter(layout, best, text.setting))) {
                best = layout;
            }
        }
        return best;
    }

    private static boolean isBetter(List<Line> layout, List<Line> other, Setting setting) {
        return compare(costOf(layout, setting), layout, costOf(other, setting), other) < 0;
    }

    private static int compare(int cost, List<Line> layout, int otherCost, List<Line> other) {
        if (cost != otherCost) {
            return cost - otherCost;
        }
        if (layout.size() != other.size()) {
            return layout.size() - other.size();
        }
        for (int i = 0; i < layout.size(); i++) {
            int words = layout.get(i).end - layout.get(i).start;
            int otherWords = other.get(i).end - other.get(i).start;
            if (words != otherWords) {
                return otherWords - words;
            }
        }
        return 0;
    }

    /** The best lines behind two given ones, for paragraphs with too many layouts to see all. */
    private static final class Search {
        private record Rest(int cost, List<Line> lines) {
        }

        private final State text;
        private final int from;
        private final int to;
        private final Map<List<Integer>, Rest> known = new HashMap<>();

        Search(State text, int from, int to) {
            this.text = text;
            this.from = from;
            this.to = to;
        }

        List<Line> best() {
            return behind(-1, -1, from).lines;
        }

        private Rest behind(int lineBefore, int lastLine, int start) {
            if (start == to) {
                return new Rest(0, List.of());
            }
            List<Integer> key = List.of(lineBefore, lastLine, start);
            if (known.containsKey(key)) {
                return known.get(key);
            }
            Rest best = null;
            for (int end = start + 1; end <= to && isLine(text, start, end); end++) {
                Rest rest = behind(lastLine, start, end);
                List<Line> lines = new ArrayList<>(List.of(line(text, from, to, start, end)));
                lines.addAll(rest.lines);
                int cost = rest.cost + added(lineBefore, lastLine, start, end);
                if (best == null || compare(cost, lines, best.cost, best.lines) < 0) {
                    best = new Rest(cost, lines);
                }
            }
            known.put(key, best);
            return best;
        }

        /** What a line costs behind two others, the stair that it completes included. */
        private int added(int lineBefore, int lastLine, int start, int end) {
            List<Line> lines = new ArrayList<>();
            if (lineBefore >= 0) {
                lines.add(line(text, from, to, lineBefore, lastLine));
            }
            if (lastLine >= 0) {
                lines.add(line(text, from, to, lastLine, start));
            }
            int before = costOf(lines, text.setting);
            lines.add(line(text, from, to, start, end));
            return costOf(lines, text.setting) - before;
        }
    }

    private int costOf(State text, boolean isOptimal) {
        return costOf(layoutOf(text, isOptimal), text.setting);
    }

    private static int costOf(List<Line> layout, Setting setting) {
        int cost = 0;
        for (int i = 0; i < layout.size(); i++) {
            Line line = layout.get(i);
            if (!line.isLast) {
                cost += (setting.column - line.width) * (setting.column - line.width);
            } else if (!line.isOnly() && 4 * line.width < setting.column) {
                cost += setting.shortPenalty;
            }
            cost += stairFrom(layout, i, setting) != 0 ? setting.stairPenalty : 0;
        }
        return cost;
    }

    /** -1 or 1 if the line with this number and the two behind it are a stair, else 0. */
    private static int stairFrom(List<Line> layout, int number, Setting setting) {
        if (number + 2 >= layout.size()) {
            return 0;
        }
        Line first = layout.get(number);
        Line second = layout.get(number + 1);
        Line third = layout.get(number + 2);
        if (first.isLast || second.isLast || third.isLast) {
            return 0;
        }
        int change = second.width - first.width;
        int nextChange = third.width - second.width;
        if (change >= setting.step && nextChange >= setting.step) {
            return 1;
        }
        return -change >= setting.step && -nextChange >= setting.step ? -1 : 0;
    }

    private List<Integer> pageStarts() {
        List<Line> left = layout();
        List<Integer> starts = new ArrayList<>();
        int start = 0;
        while (!left.isEmpty()) {
            starts.add(start);
            int count = Math.min(state.setting.page, left.size());
            if (count < left.size()) {
                Line last = left.get(count - 1);
                Line next = left.get(count);
                if (last.isFirst && !last.isOnly() || next.isLast && !next.isOnly()) {
                    count--;
                }
            }
            start += count;
            left = left.subList(count, left.size());
        }
        return starts;
    }

    private void needWord(int word) {
        needIndex(word >= 0 && word < words());
    }

    private void needLine(int line) {
        needIndex(line >= 0 && line < lines());
    }

    private static void needIndex(boolean isRight) {
        if (!isRight) {
            throw new IndexOutOfBoundsException();
        }
    }

    private static void needArgument(boolean isRight) {
        if (!isRight) {
            throw new IllegalArgumentException();
        }
    }

    private static void needState(boolean isRight) {
        if (!isRight) {
            throw new IllegalStateException();
        }
    }
}

import java.util.Arrays;

/** A tabulating machine with its plugboard and its deck of cards. */
public final class Tabulator {
    public static final int NONE = -1;
    public static final int FULL = -2;
    public static final int BAD_TEXT = -3;

    private static final int TEXT_LIMIT = 1100;
    private static final int BYTES_IN_A_WORD = 4;
    private static final int BYTES_IN_A_FEED = 20;
    private static final int FIELD_LIMIT = 8;
    private static final int SELECTOR_LIMIT = 6;
    private static final int COUNTER_LIMIT = 6;
    private static final int NAME_LIMIT = FIELD_LIMIT + SELECTOR_LIMIT + COUNTER_LIMIT;
    private static final int LIST_LIMIT = 12;
    private static final int TOTAL_LIMIT = 12;
    private static final int STEP_LIMIT = 8;
    private static final int CARD_LIMIT = 40;
    private static final int LINE_LIMIT = 120;
    private static final int SLOTS = 3;

    private static final int LEVELS = 3;
    private static final int COLUMNS = 20;
    private static final int POSITIONS = 40;
    private static final int MAX_WIDTH = 9;
    private static final int MAX_FIELD_STEP = 8;
    private static final int X_PUNCH = 10;

    private static final int ADD_MODE = 0;
    private static final int SUB_MODE = 1;
    private static final int SIGNED_MODE = 2;

    /** A column's code is its digit, or NO_DIGIT, and X_CODE more with an X punch. */
    private static final int NO_DIGIT = -1;
    private static final int EMPTY_COLUMN = NO_DIGIT;
    private static final int X_CODE = 100;
    private static final int X_ALONE = X_CODE + NO_DIGIT;

    private static final int BLANK = ' ';

    private final Reader reader = new Reader();
    private final Machine machine = new Machine();
    private final Machine trial = new Machine();
    private final Machine trialWithoutCard = new Machine();
    private final Machine[] slots = new Machine[SLOTS];

    public Tabulator() {
    }

    // text

    public int feed(int a, int b, int c, int d, int e) {
        if (reader.buffered + BYTES_IN_A_FEED > TEXT_LIMIT) {
            return FULL;
        }
        reader.append(a);
        reader.append(b);
        reader.append(c);
        reader.append(d);
        reader.append(e);
        return reader.buffered;
    }

    public int load(int length) throws IllegalArgumentException {
        if (length < 0 || length > reader.buffered) {
            throw new IllegalArgumentException("no such length");
        }
        boolean legal = reader.readText(length);
        reader.buffered = 0;
        if (!legal) {
            return BAD_TEXT;
        }
        machine.takeSetup(reader.board, reader.deck);
        return machine.deck.count;
    }

    public int errorKind() {
        return reader.kindOfError;
    }

    public int errorPosition() {
        return reader.kindOfError == 0 ? NONE : reader.placeOfError;
    }

    // deck

    public int cardCount() {
        return machine.deck.count;
    }

    public int column(int card, int column) throws IndexOutOfBoundsException {
        requireCard(card);
        requireColumn(column);
        return machine.deck.codeAt(card, column);
    }

    public long fieldValue(int card, int field) throws IndexOutOfBoundsException {
        requireCard(card);
        requireField(field);
        return machine.signedValue(card, field);
    }

    public int breakLevel(int card) throws IndexOutOfBoundsException {
        requireCard(card);
        return machine.levelOfBreak(card);
    }

    public int groupCount(int level) throws IllegalArgumentException {
        requireLevel(level);
        return machine.countGroups(level);
    }

    public int groupOf(int card, int level) throws IndexOutOfBoundsException, IllegalArgumentException {
        requireCard(card);
        requireLevel(level);
        return machine.groupOfCard(card, level);
    }

    public long groupSum(int field, int level, int group) throws IndexOutOfBoundsException, IllegalArgumentException {
        requireField(field);
        requireLevel(level);
        int groups = machine.sumGroups(field, level);
        if (group < 0 || group >= groups) {
            throw new IllegalArgumentException("no such group");
        }
        return machine.groupSums[group];
    }

    public int greatestGroup(int field, int level) throws IndexOutOfBoundsException, IllegalArgumentException {
        requireField(field);
        requireLevel(level);
        int groups = machine.sumGroups(field, level);
        int greatest = NONE;
        for (int group = 0; group < groups; group++) {
            if (greatest == NONE || machine.groupSums[group] > machine.groupSums[greatest]) {
                greatest = group;
            }
        }
        return greatest;
    }

    public double mean(int field) throws IndexOutOfBoundsException {
        requireField(field);
        int cards = machine.deck.count;
        if (cards == 0) {
            return 0.0;
        }
        long sum = 0;
        for (int card = 0; card < cards; card++) {
            sum += machine.signedValue(card, field);
        }
        return (double) sum / cards;
    }

    public float movingAverage(int field, float weight) throws IndexOutOfBoundsException, IllegalArgumentException {
        requireField(field);
        boolean inRange = weight > 0.0f && weight <= 1.0f;
        if (!inRange) {
            throw new IllegalArgumentException("no such weight");
        }
        if (machine.deck.count == 0) {
            return 0.0f;
        }
        float average = (float) machine.signedValue(0, field);
        for (int card = 1; card < machine.deck.count; card++) {
            float value = (float) machine.signedValue(card, field);
            average = average + (value - average) * weight;
        }
        return average;
    }

    public int firstOutOfSequence(int field) throws IndexOutOfBoundsException {
        requireField(field);
        for (int card = 1; card < machine.deck.count; card++) {
            if (machine.value(card, field) < machine.value(card - 1, field)) {
                return card;
            }
        }
        return NONE;
    }

    public int earlierMatch(int card, int field) throws IndexOutOfBoundsException {
        requireCard(card);
        requireField(field);
        int value = machine.value(card, field);
        for (int earlier = card - 1; earlier >= 0; earlier--) {
            if (machine.value(earlier, field) == value) {
                return earlier;
            }
        }
        return NONE;
    }

    // changes of the deck and of the plugboard

    public int sort(int field) throws IndexOutOfBoundsException {
        requireField(field);
        trial.takeSetup(machine.board, machine.deck);
        int moved = 0;
        for (int card = 0; card < machine.deck.count; card++) {
            int place = trial.placeInOrder(card, field);
            machine.deck.takeCard(place, trial.deck, card);
            if (place != card) {
                moved++;
            }
        }
        machine.restart();
        return moved;
    }

    public int removeCard(int card) throws IndexOutOfBoundsException {
        requireCard(card);
        machine.deck.dropCard(card);
        machine.restart();
        return machine.deck.count;
    }

    public int copyCard(int card) throws IndexOutOfBoundsException, IllegalStateException {
        requireCard(card);
        if (machine.deck.count >= CARD_LIMIT) {
            throw new IllegalStateException("the deck is full");
        }
        machine.deck.doubleCard(card);
        machine.restart();
        return machine.deck.count;
    }

    public int setColumn(int card, int column, int code) throws IndexOutOfBoundsException, IllegalArgumentException {
        requireCard(card);
        requireColumn(column);
        boolean withoutX = code >= NO_DIGIT && code <= 9;
        boolean withX = code >= X_ALONE && code <= X_CODE + 9;
        if (!withoutX && !withX) {
            throw new IllegalArgumentException("no such code");
        }
        int previous = machine.deck.codeAt(card, column);
        machine.deck.punchColumn(card, column, code);
        machine.restart();
        return previous;
    }

    public int plugCounter(int counter, int field, int mode) throws IndexOutOfBoundsException, IllegalArgumentException {
        requireCounter(counter);
        requireField(field);
        if (mode < ADD_MODE || mode > SIGNED_MODE) {
            throw new IllegalArgumentException("no such mode");
        }
        Table counters = machine.board.counters;
        int previous = counters.at(counter, Board.COUNTER_FIELD);
        counters.put(counter, Board.COUNTER_FIELD, field);
        counters.put(counter, Board.COUNTER_MODE, mode);
        machine.restart();
        return previous;
    }

    public int plugSelector(int counter, int selector, boolean unless) throws IndexOutOfBoundsException {
        requireCounter(counter);
        if (selector != NONE) {
            requireSelector(selector);
        }
        Table counters = machine.board.counters;
        int previous = counters.at(counter, Board.COUNTER_SELECTOR);
        counters.put(counter, Board.COUNTER_SELECTOR, selector);
        counters.put(counter, Board.COUNTER_UNLESS, unless ? 1 : 0);
        machine.restart();
        return previous;
    }

    public int plugControl(int level, int field) throws IndexOutOfBoundsException, IllegalArgumentException {
        if (field != NONE) {
            requireField(field);
        }
        requireLevel(level);
        int previous = machine.board.controlAt(level);
        machine.board.plugControlField(level, field);
        machine.restart();
        return previous;
    }

    public int restack() throws IllegalStateException {
        if (machine.summaries.count == 0) {
            throw new IllegalStateException("no summary card is kept");
        }
        machine.deck.copyFrom(machine.summaries);
        machine.restart();
        return machine.deck.count;
    }

    // machine

    public void reset() {
        machine.restart();
    }

    public int run(int count) throws IllegalArgumentException, IllegalStateException {
        if (count < 1 || count > CARD_LIMIT) {
            throw new IllegalArgumentException("no such number of cards");
        }
        requireUnfinished();
        int before = machine.cardsDone;
        for (int i = 0; i < count; i++) {
            machine.processCard();
        }
        return machine.cardsDone - before;
    }

    public int finish() throws IllegalStateException {
        requireUnfinished();
        machine.complete();
        return machine.paper.count;
    }

    public int processed() {
        return machine.cardsDone;
    }

    public int counter(int counter) throws IndexOutOfBoundsException {
        requireCounter(counter);
        return machine.numbers[counter];
    }

    public int overflows(int counter) throws IndexOutOfBoundsException {
        requireCounter(counter);
        return machine.overflowCounts[counter];
    }

    public boolean isSelected(int selector) throws IndexOutOfBoundsException {
        requireSelector(selector);
        return machine.selected[selector];
    }

    public int groups(int level) throws IllegalArgumentException {
        requireLevel(level);
        return machine.cycleCounts[level];
    }

    // output

    public int lineCount() {
        return machine.paper.count;
    }

    public char lineCharacter(int line, int position) throws IndexOutOfBoundsException {
        requireLine(line);
        if (position < 1 || position > POSITIONS) {
            throw new IndexOutOfBoundsException("no such position");
        }
        return (char) machine.paper.signAt(line, position);
    }

    public int lineLevel(int line) throws IndexOutOfBoundsException {
        requireLine(line);
        return machine.paper.levelAt(line);
    }

    public int summaryCount() {
        return machine.summariesPunched;
    }

    public int summaryColumn(int summary, int column) throws IndexOutOfBoundsException {
        if (summary < 0 || summary >= machine.summaries.count) {
            throw new IndexOutOfBoundsException("no such summary card");
        }
        requireColumn(column);
        return machine.summaries.codeAt(summary, column);
    }

    // trials

    public int linesOfRun() {
        trial.takeSetup(machine.board, machine.deck);
        trial.complete();
        return trial.paper.count;
    }

    public int neededWidth(int counter) throws IndexOutOfBoundsException {
        requireCounter(counter);
        for (int width = 1; width <= MAX_WIDTH; width++) {
            if (!overflowsWithWidth(counter, width)) {
                return width;
            }
        }
        return NONE;
    }

    public int linesDependingOn(int card) throws IndexOutOfBoundsException {
        requireCard(card);
        trial.takeSetup(machine.board, machine.deck);
        trial.complete();
        trialWithoutCard.takeSetup(machine.board, machine.deck);
        trialWithoutCard.deck.dropCard(card);
        trialWithoutCard.complete();
        int lines = 0;
        for (int line = 0; line < trial.paper.countKept(); line++) {
            boolean isTotal = trial.paper.levelAt(line) > 0;
            if (isTotal && !trialWithoutCard.paper.hasLine(trial.paper, line)) {
                lines++;
            }
        }
        return lines;
    }

    public int crossfootErrors(int a, int b, int sum) throws IndexOutOfBoundsException {
        requireCounter(a);
        requireCounter(b);
        requireCounter(sum);
        trial.takeSetup(machine.board, machine.deck);
        int errors = 0;
        for (int card = 0; card < trial.deck.count; card++) {
            trial.processCard();
            long found = (long) trial.numbers[a] + trial.numbers[b];
            if (found != trial.numbers[sum]) {
                errors++;
            }
        }
        return errors;
    }

    // saved machines

    public void save(int slot) throws IndexOutOfBoundsException {
        requireSlot(slot);
        if (slots[slot] == null) {
            slots[slot] = new Machine();
        }
        slots[slot].copyFrom(machine);
    }

    public int restore(int slot) throws IndexOutOfBoundsException, IllegalStateException {
        requireSlot(slot);
        if (slots[slot] == null) {
            throw new IllegalStateException("nothing was saved there");
        }
        machine.copyFrom(slots[slot]);
        return machine.deck.count;
    }

    private boolean overflowsWithWidth(int counter, int width) {
        trial.takeSetup(machine.board, machine.deck);
        trial.board.counters.put(counter, Board.COUNTER_WIDTH, width);
        for (int card = 0; card < trial.deck.count; card++) {
            trial.processCard();
            // The rest of the run can't take an overflow back.
            if (trial.overflowCounts[counter] > 0) {
                return true;
            }
        }
        trial.makeFinalTotals();
        return trial.overflowCounts[counter] > 0;
    }

    private void requireCard(int card) {
        if (card < 0 || card >= machine.deck.count) {
            throw new IndexOutOfBoundsException("no such card");
        }
    }

    private void requireColumn(int column) {
        if (column < 1 || column > COLUMNS) {
            throw new IndexOutOfBoundsException("no such column");
        }
    }

    private void requireField(int field) {
        if (field < 0 || field >= machine.board.fields.count) {
            throw new IndexOutOfBoundsException("no such field");
        }
    }

    private void requireSelector(int selector) {
        if (selector < 0 || selector >= machine.board.selectors.count) {
            throw new IndexOutOfBoundsException("no such selector");
        }
    }

    private void requireCounter(int counter) {
        if (counter < 0 || counter >= machine.board.counters.count) {
            throw new IndexOutOfBoundsException("no such counter");
        }
    }

    private void requireLine(int line) {
        if (line < 0 || line >= machine.paper.countKept()) {
            throw new IndexOutOfBoundsException("no such line");
        }
    }

    private void requireSlot(int slot) {
        if (slot < 0 || slot >= SLOTS) {
            throw new IndexOutOfBoundsException("no such slot");
        }
    }

    private void requireLevel(int level) {
        if (level < 1 || level > LEVELS) {
            throw new IllegalArgumentException("no such level");
        }
    }

    private void requireUnfinished() {
        if (machine.finished) {
            throw new IllegalStateException("the machine is finished");
        }
    }

    /** The reserved words of the text. */
    private enum Word {
        FIELD("field"), SELECTOR("selector"), COUNTER("counter"), CONTROL("control"), LIST("list"),
        TOTAL("total"), ROLL("roll"), CLEAR("clear"), PUNCH("punch"), CARD("card"),
        DELAYED("delayed"), ADD("add"), SUB("sub"), SIGNED("signed"), IF("if"), UNLESS("unless");

        private static final Word[] ALL = values();

        private final long key;

        Word(String text) {
            long packed = 0;
            for (int i = 0; i < text.length(); i++) {
                packed = packed << 8 | text.charAt(i);
            }
            key = packed;
        }

        /** The reserved word whose letters, a byte each, make this key; null for another word. */
        static Word withKey(long key) {
            for (Word word : ALL) {
                if (word.key == key) {
                    return word;
                }
            }
            return null;
        }
    }

    /** Rows of numbers: what the statements of one kind say. */
    private static final class Table {
        private static final int ROW_SIZE = 5;
        private static final int ROW_LIMIT = 12;

        private final int[] cells = new int[ROW_LIMIT * ROW_SIZE];
        private final int limit;
        private int count;

        Table(int limit) {
            this.limit = limit < ROW_LIMIT ? limit : ROW_LIMIT;
        }

        boolean isFull() {
            return count >= limit;
        }

        /** A new row of zeros; its number, or NONE in a full table. */
        int addRow() {
            if (isFull()) {
                return NONE;
            }
            int row = count;
            count++;
            Arrays.fill(cells, row * ROW_SIZE, (row + 1) * ROW_SIZE, 0);
            return row;
        }

        int at(int row, int place) {
            if (row < 0 || row >= count || place < 0 || place >= ROW_SIZE) {
                return 0;
            }
            return cells[row * ROW_SIZE + place];
        }

        void put(int row, int place, int number) {
            if (row >= 0 && row < count && place >= 0 && place < ROW_SIZE) {
                cells[row * ROW_SIZE + place] = number;
            }
        }

        boolean hasNumber(int place, int number) {
            for (int row = 0; row < count; row++) {
                if (at(row, place) == number) {
                    return true;
                }
            }
            return false;
        }

        void clearRows() {
            count = 0;
        }

        void copyFrom(Table other) {
            System.arraycopy(other.cells, 0, cells, 0, cells.length);
            count = other.count;
        }
    }

    /** The plugboard. */
    private static final class Board {
        static final int FIELD_FROM = 0;
        static final int FIELD_TO = 1;

        static final int SELECTOR_COLUMN = 0;
        static final int SELECTOR_PUNCH = 1;
        static final int SELECTOR_DELAYED = 2;

        static final int COUNTER_WIDTH = 0;
        static final int COUNTER_FIELD = 1;
        static final int COUNTER_MODE = 2;
        static final int COUNTER_SELECTOR = 3;
        static final int COUNTER_UNLESS = 4;

        static final int LIST_FIELD = 0;
        static final int LIST_POSITION = 1;

        /** Total, roll, clear and punch statements have their level in the same place. */
        static final int STEP_LEVEL = 0;

        static final int TOTAL_COUNTER = 1;
        static final int TOTAL_POSITION = 2;

        static final int ROLL_SOURCE = 1;
        static final int ROLL_TARGET = 2;

        static final int CLEAR_COUNTER = 1;

        static final int PUNCH_OF_FIELD = 1;
        static final int PUNCH_SOURCE = 2;
        static final int PUNCH_COLUMN = 3;

        private final Table fields = new Table(FIELD_LIMIT);
        private final Table selectors = new Table(SELECTOR_LIMIT);
        private final Table counters = new Table(COUNTER_LIMIT);
        private final Table lists = new Table(LIST_LIMIT);
        private final Table totals = new Table(TOTAL_LIMIT);
        private final Table rolls = new Table(STEP_LIMIT);
        private final Table clears = new Table(STEP_LIMIT);
        private final Table punches = new Table(STEP_LIMIT);
        private final int[] controls = new int[LEVELS + 1];

        Board() {
            Arrays.fill(controls, NONE);
        }

        int controlAt(int level) {
            return level >= 1 && level <= LEVELS ? controls[level] : NONE;
        }

        void plugControlField(int level, int field) {
            if (level >= 1 && level <= LEVELS) {
                controls[level] = field;
            }
        }

        void clearPlugs() {
            fields.clearRows();
            selectors.clearRows();
            counters.clearRows();
            lists.clearRows();
            totals.clearRows();
            rolls.clearRows();
            clears.clearRows();
            punches.clearRows();
            Arrays.fill(controls, NONE);
        }

        void copyFrom(Board other) {
            fields.copyFrom(other.fields);
            selectors.copyFrom(other.selectors);
            counters.copyFrom(other.counters);
            lists.copyFrom(other.lists);
            totals.copyFrom(other.totals);
            rolls.copyFrom(other.rolls);
            clears.copyFrom(other.clears);
            punches.copyFrom(other.punches);
            System.arraycopy(other.controls, 0, controls, 0, controls.length);
        }
    }

    /** A stack of cards. */
    private static final class Deck {
        private final int[] codes = new int[CARD_LIMIT * COLUMNS];
        private int count;

        static int digitOf(int code) {
            return code >= X_ALONE ? code - X_CODE : code;
        }

        static boolean hasX(int code) {
            return code >= X_ALONE;
        }

        int codeAt(int card, int column) {
            if (card < 0 || card >= count || column < 1 || column > COLUMNS) {
                return EMPTY_COLUMN;
            }
            return codes[card * COLUMNS + column - 1];
        }

        /** Punches a column; what would be beyond the card is left out. */
        void punchColumn(int card, int column, int code) {
            if (card >= 0 && card < count && column >= 1 && column <= COLUMNS) {
                codes[card * COLUMNS + column - 1] = code;
            }
        }

        /** An empty card behind the others; its number, or NONE behind a full deck. */
        int addCard() {
            if (count >= CARD_LIMIT) {
                return NONE;
            }
            int card = count;
            count++;
            Arrays.fill(codes, card * COLUMNS, count * COLUMNS, EMPTY_COLUMN);
            return card;
        }

        void takeCard(int card, Deck other, int otherCard) {
            for (int column = 1; column <= COLUMNS; column++) {
                punchColumn(card, column, other.codeAt(otherCard, column));
            }
        }

        void dropCard(int card) {
            if (card < 0 || card >= count) {
                return;
            }
            for (int later = card + 1; later < count; later++) {
                takeCard(later - 1, this, later);
            }
            count--;
        }

        void doubleCard(int card) {
            int last = addCard();
            for (int later = last; later > card; later--) {
                takeCard(later, this, later - 1);
            }
        }

        void clearCards() {
            count = 0;
        }

        void copyFrom(Deck other) {
            System.arraycopy(other.codes, 0, codes, 0, codes.length);
            count = other.count;
        }
    }

    /** The printed lines. */
    private static final class Paper {
        private final int[] signs = new int[LINE_LIMIT * POSITIONS];
        private final int[] levels = new int[LINE_LIMIT];
        private int count;

        void clearLines() {
            count = 0;
        }

        int countKept() {
            return count < LINE_LIMIT ? count : LINE_LIMIT;
        }

        /** A new line of blanks; print() writes on it until the next one. */
        void startLine(int level) {
            if (count < LINE_LIMIT) {
                levels[count] = level;
                Arrays.fill(signs, count * POSITIONS, (count + 1) * POSITIONS, BLANK);
            }
            count++;
        }

        /** Prints on the latest line; what would be beyond a line, or on a line not kept, is left out. */
        void print(int position, int sign) {
            int line = count - 1;
            if (line >= 0 && line < LINE_LIMIT && position >= 1 && position <= POSITIONS) {
                signs[line * POSITIONS + position - 1] = sign;
            }
        }

        void printNumber(int position, int number, int width) {
            int rest = number < 0 ? -number : number;
            for (int place = width - 1; place >= 0; place--) {
                boolean isDigit = rest > 0 || place == width - 1;
                print(position + place, isDigit ? '0' + rest % 10 : BLANK);
                rest = rest / 10;
            }
            print(position + width, number < 0 ? '-' : BLANK);
        }

        int signAt(int line, int position) {
            if (line < 0 || line >= countKept() || position < 1 || position > POSITIONS) {
                return BLANK;
            }
            return signs[line * POSITIONS + position - 1];
        }

        int levelAt(int line) {
            return line >= 0 && line < countKept() ? levels[line] : 0;
        }

        /** Whether a line with the level and the characters of the other paper's line is kept. */
        boolean hasLine(Paper other, int otherLine) {
            for (int line = 0; line < countKept(); line++) {
                if (levelAt(line) == other.levelAt(otherLine) && looksLike(line, other, otherLine)) {
                    return true;
                }
            }
            return false;
        }

        private boolean looksLike(int line, Paper other, int otherLine) {
            for (int position = 1; position <= POSITIONS; position++) {
                if (signAt(line, position) != other.signAt(otherLine, position)) {
                    return false;
                }
            }
            return true;
        }

        void copyFrom(Paper other) {
            System.arraycopy(other.signs, 0, signs, 0, signs.length);
            System.arraycopy(other.levels, 0, levels, 0, levels.length);
            count = other.count;
        }
    }

    /** A plugboard, a deck, and how far the machine is with them. */
    private static final class Machine {
        private final Board board = new Board();
        private final Deck deck = new Deck();
        private final int[] numbers = new int[COUNTER_LIMIT];
        private final int[] overflowCounts = new int[COUNTER_LIMIT];
        private final boolean[] selected = new boolean[SELECTOR_LIMIT];
        private final int[] cycleCounts = new int[LEVELS + 1];
        private final long[] groupSums = new long[CARD_LIMIT];
        private final Paper paper = new Paper();
        private final Deck summaries = new Deck();
        private int summariesPunched;
        private int cardsDone;
        private boolean finished;

        void takeSetup(Board newBoard, Deck newDeck) {
            board.copyFrom(newBoard);
            deck.copyFrom(newDeck);
            restart();
        }

        void restart() {
            Arrays.fill(numbers, 0);
            Arrays.fill(overflowCounts, 0);
            Arrays.fill(cycleCounts, 0);
            for (int selector = 0; selector < selected.length; selector++) {
                selected[selector] = false;
            }
            paper.clearLines();
            summaries.clearCards();
            summariesPunched = 0;
            cardsDone = 0;
            finished = false;
        }

        void copyFrom(Machine other) {
            board.copyFrom(other.board);
            deck.copyFrom(other.deck);
            System.arraycopy(other.numbers, 0, numbers, 0, numbers.length);
            System.arraycopy(other.overflowCounts, 0, overflowCounts, 0, overflowCounts.length);
            System.arraycopy(other.cycleCounts, 0, cycleCounts, 0, cycleCounts.length);
            System.arraycopy(other.selected, 0, selected, 0, selected.length);
            paper.copyFrom(other.paper);
            summaries.copyFrom(other.summaries);
            summariesPunched = other.summariesPunched;
            cardsDone = other.cardsDone;
            finished = other.finished;
        }

        int value(int card, int field) {
            int to = board.fields.at(field, Board.FIELD_TO);
            int value = 0;
            for (int column = board.fields.at(field, Board.FIELD_FROM); column <= to; column++) {
                int digit = Deck.digitOf(deck.codeAt(card, column));
                value = value * 10 + (digit == NO_DIGIT ? 0 : digit);
            }
            return value;
        }

        int signedValue(int card, int field) {
            int lastColumn = board.fields.at(field, Board.FIELD_TO);
            int value = value(card, field);
            return Deck.hasX(deck.codeAt(card, lastColumn)) ? -value : value;
        }

        int levelOfBreak(int card) {
            if (card < 1) {
                return 0;
            }
            for (int level = LEVELS; level >= 1; level--) {
                int field = board.controlAt(level);
                if (field != NONE && value(card, field) != value(card - 1, field)) {
                    return level;
                }
            }
            return 0;
        }

        int countGroups(int level) {
            return deck.count == 0 ? 0 : groupOfCard(deck.count - 1, level) + 1;
        }

        int groupOfCard(int card, int level) {
            int group = 0;
            for (int other = 1; other <= card; other++) {
                if (levelOfBreak(other) >= level) {
                    group++;
                }
            }
            return group;
        }

        /** Puts the sums of a field into groupSums; the number of groups of the level. */
        int sumGroups(int field, int level) {
            int group = NONE;
            // There are no more groups than cards.
            for (int card = 0; card < deck.count && card < groupSums.length; card++) {
                if (card == 0 || levelOfBreak(card) >= level) {
                    group++;
                    groupSums[group] = 0;
                }
                groupSums[group] += signedValue(card, field);
            }
            return group + 1;
        }

        /** The number that a card has after a sorting that keeps the order of equal cards. */
        int placeInOrder(int card, int field) {
            int value = value(card, field);
            int place = 0;
            for (int other = 0; other < deck.count; other++) {
                int otherValue = value(other, field);
                if (otherValue < value || otherValue == value && other < card) {
                    place++;
                }
            }
            return place;
        }

        void complete() {
            for (int card = cardsDone; card < deck.count; card++) {
                processCard();
            }
            makeFinalTotals();
        }

        void makeFinalTotals() {
            if (cardsDone > 0) {
                makeTotalCycles(LEVELS);
            }
            finished = true;
        }

        void processCard() {
            int card = cardsDone;
            if (card >= deck.count) {
                return;
            }
            makeTotalCycles(levelOfBreak(card));
            setSelectors(card);
            addAmounts(card);
            printDetailLine(card);
            cardsDone++;
        }

        private void makeTotalCycles(int highestLevel) {
            for (int level = 1; level <= highestLevel; level++) {
                rollCounters(level);
                printTotalLine(level);
                punchSummary(level);
                clearCounters(level);
                cycleCounts[level]++;
            }
        }

        private void setSelectors(int card) {
            for (int selector = 0; selector < board.selectors.count; selector++) {
                boolean delayed = board.selectors.at(selector, Board.SELECTOR_DELAYED) == 1;
                // No card stands before the first one, and a column of no card has no punch.
                selected[selector] = hasPunch(delayed ? card - 1 : card, selector);
            }
        }

        private boolean hasPunch(int card, int selector) {
            int code = deck.codeAt(card, board.selectors.at(selector, Board.SELECTOR_COLUMN));
            int punch = board.selectors.at(selector, Board.SELECTOR_PUNCH);
            return punch == X_PUNCH ? Deck.hasX(code) : Deck.digitOf(code) == punch;
        }

        private void addAmounts(int card) {
            for (int counter = 0; counter < board.counters.count; counter++) {
                if (!isActive(counter)) {
                    continue;
                }
                int field = board.counters.at(counter, Board.COUNTER_FIELD);
                switch (board.counters.at(counter, Board.COUNTER_MODE)) {
                    case SUB_MODE: addTo(counter, -value(card, field)); break;
                    case SIGNED_MODE: addTo(counter, signedValue(card, field)); break;
                    default: addTo(counter, value(card, field)); break;
                }
            }
        }

        private boolean isActive(int counter) {
            int selector = board.counters.at(counter, Board.COUNTER_SELECTOR);
            if (selector < 0 || selector >= selected.length) {
                return true;
            }
            boolean unless = board.counters.at(counter, Board.COUNTER_UNLESS) == 1;
            return selected[selector] != unless;
        }

        private void addTo(int counter, int amount) {
            if (counter < 0 || counter >= numbers.length) {
                return;
            }
            // Two numbers of nine digits have a sum that an int holds.
            int sum = numbers[counter] + amount;
            int size = sum < 0 ? -sum : sum;
            int modulus = 1;
            for (int digit = 0; digit < board.counters.at(counter, Board.COUNTER_WIDTH); digit++) {
                modulus = modulus * 10;
            }
            if (modulus > 0 && size >= modulus) {
                overflowCounts[counter]++;
                size = size % modulus;
            }
            numbers[counter] = sum < 0 ? -size : size;
        }

        private int numberIn(int counter) {
            return counter >= 0 && counter < numbers.length ? numbers[counter] : 0;
        }

        private void printDetailLine(int card) {
            if (board.lists.count == 0) {
                return;
            }
            paper.startLine(0);
            for (int list = 0; list < board.lists.count; list++) {
                int field = board.lists.at(list, Board.LIST_FIELD);
                int position = board.lists.at(list, Board.LIST_POSITION);
                int to = board.fields.at(field, Board.FIELD_TO);
                for (int column = board.fields.at(field, Board.FIELD_FROM); column <= to; column++) {
                    int digit = Deck.digitOf(deck.codeAt(card, column));
                    paper.print(position, digit == NO_DIGIT ? BLANK : '0' + digit);
                    position++;
                }
            }
        }

        private void rollCounters(int level) {
            Table rolls = board.rolls;
            for (int roll = 0; roll < rolls.count; roll++) {
                if (rolls.at(roll, Board.STEP_LEVEL) == level) {
                    addTo(rolls.at(roll, Board.ROLL_TARGET), numberIn(rolls.at(roll, Board.ROLL_SOURCE)));
                }
            }
        }

        private void printTotalLine(int level) {
            Table totals = board.totals;
            if (!totals.hasNumber(Board.STEP_LEVEL, level)) {
                return;
            }
            paper.startLine(level);
            for (int total = 0; total < totals.count; total++) {
                if (totals.at(total, Board.STEP_LEVEL) == level) {
                    int counter = totals.at(total, Board.TOTAL_COUNTER);
                    int width = board.counters.at(counter, Board.COUNTER_WIDTH);
                    paper.printNumber(totals.at(total, Board.TOTAL_POSITION), numberIn(counter), width);
                }
            }
            for (int star = 0; star < level; star++) {
                paper.print(POSITIONS - star, '*');
            }
        }

        private void punchSummary(int level) {
            Table punches = board.punches;
            if (!punches.hasNumber(Board.STEP_LEVEL, level)) {
                return;
            }
            summariesPunched++;
            int summary = summaries.addCard();
            for (int punch = 0; punch < punches.count; punch++) {
                if (punches.at(punch, Board.STEP_LEVEL) == level) {
                    int source = punches.at(punch, Board.PUNCH_SOURCE);
                    int column = punches.at(punch, Board.PUNCH_COLUMN);
                    if (punches.at(punch, Board.PUNCH_OF_FIELD) == 1) {
                        punchField(summary, column, source);
                    } else {
                        punchCounter(summary, column, source);
                    }
                }
            }
        }

        private void punchField(int summary, int column, int field) {
            int from = board.fields.at(field, Board.FIELD_FROM);
            int to = board.fields.at(field, Board.FIELD_TO);
            for (int source = from; source <= to; source++) {
                summaries.punchColumn(summary, column + source - from, deck.codeAt(cardsDone - 1, source));
            }
        }

        private void punchCounter(int summary, int column, int counter) {
            int number = numberIn(counter);
            int lastColumn = column + board.counters.at(counter, Board.COUNTER_WIDTH) - 1;
            int rest = number < 0 ? -number : number;
            for (int place = lastColumn; place >= column; place--) {
                boolean withX = number < 0 && place == lastColumn;
                summaries.punchColumn(summary, place, withX ? X_CODE + rest % 10 : rest % 10);
                rest = rest / 10;
            }
        }

        private void clearCounters(int level) {
            for (int clear = 0; clear < board.clears.count; clear++) {
                int counter = board.clears.at(clear, Board.CLEAR_COUNTER);
                boolean ofLevel = board.clears.at(clear, Board.STEP_LEVEL) == level;
                if (ofLevel && counter >= 0 && counter < numbers.length) {
                    numbers[counter] = 0;
                }
            }
        }
    }

    /** The buffer, and the reading of its text into a plugboard and a deck. */
    private static final class Reader {
        private static final int WORD_LENGTH = 8;
        private static final int NUMBER_LENGTH = 2;

        private static final int END_TOKEN = 0;
        private static final int WORD_TOKEN = 1;
        private static final int NUMBER_TOKEN = 2;
        private static final int SEMICOLON_TOKEN = 3;
        private static final int ILLEGAL_TOKEN = 4;

        private static final int ILLEGAL = 1;
        private static final int UNEXPECTED = 2;
        private static final int OUT_OF_RANGE = 3;
        private static final int WRONG_NAME = 4;
        private static final int BEYOND_LIMITS = 5;

        /** The kinds of names are bits, so that a place of the text may take two of them. */
        private static final int FIELD_NAME = 1;
        private static final int SELECTOR_NAME = 2;
        private static final int COUNTER_NAME = 4;

        private final int[] text = new int[TEXT_LIMIT];
        private int buffered;
        private int end;
        private int position;
        private int tokenStart;
        private int tokenKind;
        private int tokenNumber;
        private long tokenKey;
        private final long[] nameKeys = new long[NAME_LIMIT];
        private final int[] nameKinds = new int[NAME_LIMIT];
        private final int[] nameRows = new int[NAME_LIMIT];
        private int names;
        private int kindOfTakenName;
        private int kindOfError;
        private int placeOfError;
        private final Board board = new Board();
        private final Deck deck = new Deck();

        /** Appends four bytes to the buffer, the most significant one first. */
        void append(int bytes) {
            for (int i = BYTES_IN_A_WORD - 1; i >= 0; i--) {
                if (buffered >= 0 && buffered < text.length) {
                    text[buffered] = bytes >>> 8 * i & 255;
                    buffered++;
                }
            }
        }

        /** Reads the first bytes of the buffer as a text; false if it is not legal. */
        boolean readText(int length) {
            startText(length);
            // Each turn reads at least one byte, so that the text ends before the turns do.
            for (int turn = 0; turn <= TEXT_LIMIT && kindOfError == 0; turn++) {
                nextToken();
                if (tokenKind == END_TOKEN) {
                    return true;
                }
                Word word = reservedWord();
                if (word == null) {
                    fail(tokenKind == ILLEGAL_TOKEN ? ILLEGAL : UNEXPECTED);
                    return false;
                }
                switch (word) {
                    case FIELD: readField(); break;
                    case SELECTOR: readSelector(); break;
                    case COUNTER: readCounter(); break;
                    case CONTROL: readControl(); break;
                    case LIST: readList(); break;
                    case TOTAL: readTotal(); break;
                    case ROLL: readRoll(); break;
                    case CLEAR: readClear(); break;
                    case PUNCH: readPunch(); break;
                    case CARD: readCard(); break;
                    default: fail(UNEXPECTED); break;
                }
            }
            return false;
        }

        private void startText(int length) {
            end = length < text.length ? length : text.length;
            position = 0;
            names = 0;
            kindOfError = 0;
            board.clearPlugs();
            deck.clearCards();
        }

        // Behind the first error of a text the steps of a statement do nothing more,
        // so that a statement needs no test after each of them.

        private void readField() {
            int row = startStatement(board.fields);
            takeNewName(FIELD_NAME, row);
            int from = takeNumber(1, COLUMNS);
            int longest = from + MAX_FIELD_STEP;
            int to = takeNumber(from, longest < COLUMNS ? longest : COLUMNS);
            takeSemicolon();
            board.fields.put(row, Board.FIELD_FROM, from);
            board.fields.put(row, Board.FIELD_TO, to);
        }

        private void readSelector() {
            int row = startStatement(board.selectors);
            takeNewName(SELECTOR_NAME, row);
            board.selectors.put(row, Board.SELECTOR_COLUMN, takeNumber(1, COLUMNS));
            board.selectors.put(row, Board.SELECTOR_PUNCH, takeNumber(0, X_PUNCH));
            Word option = takeOption();
            if (option == Word.DELAYED) {
                board.selectors.put(row, Board.SELECTOR_DELAYED, 1);
                takeSemicolon();
            } else if (option != null) {
                fail(UNEXPECTED);
            }
        }

        private void readCounter() {
            int row = startStatement(board.counters);
            takeNewName(COUNTER_NAME, row);
            board.counters.put(row, Board.COUNTER_WIDTH, takeNumber(1, MAX_WIDTH));
            board.counters.put(row, Board.COUNTER_FIELD, takeName(FIELD_NAME));
            board.counters.put(row, Board.COUNTER_MODE, takeMode());
            board.counters.put(row, Board.COUNTER_SELECTOR, NONE);
            Word option = takeOption();
            if (option == Word.IF || option == Word.UNLESS) {
                board.counters.put(row, Board.COUNTER_SELECTOR, takeName(SELECTOR_NAME));
                board.counters.put(row, Board.COUNTER_UNLESS, option == Word.UNLESS ? 1 : 0);
                takeSemicolon();
            } else if (option != null) {
                fail(UNEXPECTED);
            }
        }

        private void readControl() {
            int level = takeNumber(1, LEVELS);
            if (board.controlAt(level) != NONE) {
                fail(BEYOND_LIMITS);
            }
            int field = takeName(FIELD_NAME);
            takeSemicolon();
            board.plugControlField(level, field);
        }

        private void readList() {
            int row = startStatement(board.lists);
            board.lists.put(row, Board.LIST_FIELD, takeName(FIELD_NAME));
            board.lists.put(row, Board.LIST_POSITION, takeNumber(1, POSITIONS));
            takeSemicolon();
        }

        private void readTotal() {
            int row = startStatement(board.totals);
            board.totals.put(row, Board.STEP_LEVEL, takeNumber(1, LEVELS));
            board.totals.put(row, Board.TOTAL_COUNTER, takeName(COUNTER_NAME));
            board.totals.put(row, Board.TOTAL_POSITION, takeNumber(1, POSITIONS));
            takeSemicolon();
        }

        private void readRoll() {
            int row = startStatement(board.rolls);
            board.rolls.put(row, Board.STEP_LEVEL, takeNumber(1, LEVELS));
            board.rolls.put(row, Board.ROLL_SOURCE, takeName(COUNTER_NAME));
            board.rolls.put(row, Board.ROLL_TARGET, takeName(COUNTER_NAME));
            takeSemicolon();
        }

        private void readClear() {
            int row = startStatement(board.clears);
            board.clears.put(row, Board.STEP_LEVEL, takeNumber(1, LEVELS));
            board.clears.put(row, Board.CLEAR_COUNTER, takeName(COUNTER_NAME));
            takeSemicolon();
        }

        private void readPunch() {
            int row = startStatement(board.punches);
            board.punches.put(row, Board.STEP_LEVEL, takeNumber(1, LEVELS));
            board.punches.put(row, Board.PUNCH_SOURCE, takeName(FIELD_NAME | COUNTER_NAME));
            board.punches.put(row, Board.PUNCH_OF_FIELD, kindOfTakenName == FIELD_NAME ? 1 : 0);
            board.punches.put(row, Board.PUNCH_COLUMN, takeNumber(1, COLUMNS));
            takeSemicolon();
        }

        private void readCard() {
            int card = deck.addCard();
            if (card == NONE) {
                fail(BEYOND_LIMITS);
            }
            takeColumns(card);
            takeSemicolon();
        }

        private int startStatement(Table table) {
            int row = table.addRow();
            if (row == NONE) {
                fail(BEYOND_LIMITS);
            }
            return row;
        }

        /** Notes an error at the latest token, unless one stands before it. */
        private void fail(int kind) {
            if (kindOfError == 0) {
                kindOfError = kind;
                placeOfError = tokenStart;
            }
        }

        /** Goes to the next token; false if it is not of this kind or if there was an error before. */
        private boolean take(int kind) {
            if (kindOfError != 0) {
                return false;
            }
            nextToken();
            if (tokenKind == ILLEGAL_TOKEN) {
                fail(ILLEGAL);
            } else if (tokenKind != kind) {
                fail(UNEXPECTED);
            }
            return kindOfError == 0;
        }

        private void takeSemicolon() {
            take(SEMICOLON_TOKEN);
        }

        private int takeNumber(int least, int greatest) {
            if (!take(NUMBER_TOKEN)) {
                return 0;
            }
            if (tokenNumber < least || tokenNumber > greatest) {
                fail(OUT_OF_RANGE);
            }
            return tokenNumber;
        }

        private int takeMode() {
            Word word = take(WORD_TOKEN) ? reservedWord() : null;
            if (word == Word.SUB) {
                return SUB_MODE;
            }
            if (word == Word.SIGNED) {
                return SIGNED_MODE;
            }
            if (word != Word.ADD) {
                fail(UNEXPECTED);
            }
            return ADD_MODE;
        }

        /** The reserved word before the end of a statement; null if the semicolon stands there. */
        private Word takeOption() {
            if (kindOfError != 0) {
                return null;
            }
            nextToken();
            Word word = reservedWord();
            if (tokenKind == ILLEGAL_TOKEN) {
                fail(ILLEGAL);
            } else if (word == null && tokenKind != SEMICOLON_TOKEN) {
                fail(UNEXPECTED);
            }
            return word;
        }

        private void takeNewName(int kind, int row) {
            if (!take(WORD_TOKEN)) {
                return;
            }
            if (reservedWord() != null) {
                fail(UNEXPECTED);
            } else if (findName(tokenKey) != NONE) {
                fail(WRONG_NAME);
            } else if (names >= 0 && names < NAME_LIMIT) {
                nameKeys[names] = tokenKey;
                nameKinds[names] = kind;
                nameRows[names] = row;
                names++;
            }
        }

        /** The row of what is declared by a name, if that is of one of these kinds. */
        private int takeName(int kinds) {
            if (!take(WORD_TOKEN)) {
                return 0;
            }
            int name = findName(tokenKey);
            if (reservedWord() != null) {
                fail(UNEXPECTED);
                return 0;
            }
            if (name < 0 || name >= NAME_LIMIT || (nameKinds[name] & kinds) == 0) {
                fail(WRONG_NAME);
                return 0;
            }
            kindOfTakenName = nameKinds[name];
            return nameRows[name];
        }

        private int findName(long key) {
            for (int name = 0; name < names && name < NAME_LIMIT; name++) {
                if (nameKeys[name] == key) {
                    return name;
                }
            }
            return NONE;
        }

        /** The latest token as a reserved word; null if it is none. */
        private Word reservedWord() {
            return tokenKind == WORD_TOKEN ? Word.withKey(tokenKey) : null;
        }

        private void nextToken() {
            skipBlanks();
            if (position >= end) {
                tokenKind = END_TOKEN;
            } else if (isLetter(text[position])) {
                scanWord();
            } else if (isDigit(text[position])) {
                scanNumber();
            } else {
                tokenKind = text[position] == ';' ? SEMICOLON_TOKEN : ILLEGAL_TOKEN;
                position++;
            }
        }

        private void skipBlanks() {
            while (position < end && (text[position] == ' ' || text[position] == '\n')) {
                position++;
            }
            tokenStart = position;
        }

        private void scanWord() {
            tokenKey = 0;
            while (position < end && isLetter(text[position])) {
                tokenKey = tokenKey << 8 | text[position];
                position++;
            }
            tokenKind = position - tokenStart <= WORD_LENGTH ? WORD_TOKEN : ILLEGAL_TOKEN;
        }

        private void scanNumber() {
            tokenNumber = 0;
            while (position < end && isDigit(text[position])) {
                tokenNumber = tokenNumber * 10 + text[position] - '0';
                position++;
            }
            tokenKind = position - tokenStart <= NUMBER_LENGTH ? NUMBER_TOKEN : ILLEGAL_TOKEN;
        }

        private void takeColumns(int card) {
            if (kindOfError != 0) {
                return;
            }
            skipBlanks();
            while (position < end && isCardSign(text[position])) {
                deck.punchColumn(card, position - tokenStart + 1, codeOfSign(text[position]));
                position++;
            }
            if (tokenStart >= end) {
                fail(UNEXPECTED);
            } else if (position == tokenStart || position - tokenStart > COLUMNS) {
                fail(ILLEGAL);
            }
        }

        private static boolean isLetter(int sign) {
            return sign >= 'a' && sign <= 'z';
        }

        private static boolean isDigit(int sign) {
            return sign >= '0' && sign <= '9';
        }

        private static boolean isCardSign(int sign) {
            return isDigit(sign) || sign >= 'a' && sign <= 'j' || sign == 'x' || sign == '.';
        }

        private static int codeOfSign(int sign) {
            if (isDigit(sign)) {
                return sign - '0';
            }
            if (sign == '.') {
                return EMPTY_COLUMN;
            }
            return sign == 'x' ? X_ALONE : X_CODE + sign - 'a';
        }
    }
}

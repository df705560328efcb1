import java.util.ArrayList;
import java.util.List;
import java.util.function.Consumer;
import java.util.function.Function;
import java.util.function.Supplier;

/**
 * The part ERRORS of the document: which call is refused, by which exception, which of two refusals comes first,
 * and "A call that throws changes nothing."
 */
public final class RefusalTest {
    private static final String INDEX = "IndexOutOfBoundsException";
    private static final String ARGUMENT = "IllegalArgumentException";
    private static final String STATE = "IllegalStateException";
    private static final int MIN = Integer.MIN_VALUE;
    private static final int MAX = Integer.MAX_VALUE;

    /** In the machines of this test there are 4 cards, 2 fields, 2 selectors, 3 counters. */
    private static final int[] NO_CARD = {-1, 4, 5, 39, 40, MIN, MAX};
    private static final int[] NO_FIELD = {-1, 2, 3, 7, 8, MIN, MAX};
    private static final int[] NO_COUNTER = {-1, 3, 4, 5, 6, MIN, MAX};
    private static final int[] NO_SELECTOR = {-1, 2, 3, 5, 6, MIN, MAX};
    private static final int[] NO_COLUMN = {-1, 0, 21, 22, MIN, MAX};
    private static final int[] NO_POSITION = {-1, 0, 41, 42, MIN, MAX};
    private static final int[] NO_LEVEL = {-1, 0, 4, 5, MIN, MAX};
    private static final int[] NO_CODE = {MIN, -101, -100, -2, 10, 11, 50, 98, 110, 111, 199, 255, MAX};
    private static final int[] NO_MODE = {-1, 3, 4, MIN, MAX};
    private static final int[] NO_COUNT = {-1, 0, 41, 42, MIN, MAX};
    private static final int[] NO_SLOT = {-1, 3, 4, MIN, MAX};
    private static final float[] NO_WEIGHT = {0f, -0f, -Float.MIN_VALUE, -0.5f, -1f, Math.nextUp(1f), 1.5f, Float.MAX_VALUE,
        Float.NEGATIVE_INFINITY, Float.POSITIVE_INFINITY, Float.NaN};

    /** A call that has to be refused, and the exception that is due. */
    private static final class Refused {
        final String call;
        final String due;
        final Consumer<Tabulator> made;

        Refused(String call, String due, Consumer<Tabulator> made) {
            this.call = call;
            this.due = due;
            this.made = made;
        }
    }

    private static List<Refused> calls = new ArrayList<>();

    private RefusalTest() {
    }

    public static void main(String[] args) {
        deckCalls();
        changeCalls();
        machineCalls();
        trialCalls();
        List<Refused> always = calls;
        checkAll("under way", always, RefusalTest::underWay);
        checkAll("finished", always, RefusalTest::finished);
        calls = new ArrayList<>();
        callsRefusedUnderWay();
        checkAll("under way", calls, RefusalTest::underWay);
        calls = new ArrayList<>();
        callsRefusedWhenFinished();
        checkAll("finished", calls, RefusalTest::finished);
        calls = new ArrayList<>();
        callsRefusedOfAFullDeck();
        checkAll("full", calls, RefusalTest::full);
        calls = new ArrayList<>();
        callsRefusedOfANewObject();
        checkAll("new", calls, Tabulator::new);
        calls = new ArrayList<>();
        callsRefusedOfAnEmptyDeck();
        checkAll("without cards", calls, RefusalTest::withoutCards);
        calls = new ArrayList<>();
        callsRefusedOfAnEmptyPlugboard();
        checkAll("without plugs", calls, RefusalTest::withoutPlugs);
        Check.ends("RefusalTest");
    }

    // machines

    /** Three cards processed, an older machine in slot 1, an error of the latest load, 20 bytes in the buffer. */
    private static Tabulator underWay() {
        Tabulator x = Picture.underWay(1);
        x.save(1);
        x.run(2);
        Check.load(x, "card 1; card ?");
        Check.feedText(x, "card 7; card 88;    ");
        return x;
    }

    private static Tabulator finished() {
        Tabulator x = underWay();
        x.finish();
        return x;
    }

    private static Tabulator full() {
        Tabulator x = Check.machine("field v 1 1; counter c 3 v add;" + "card 1;".repeat(40));
        x.run(2);
        return x;
    }

    private static Tabulator withoutCards() {
        return Check.machine("field k 1 1;field v 2 3;selector s 4 10;selector d 4 10 delayed;counter a 2 v signed;counter b 1 v add if s;"
            + "counter c 3 v sub;control 1 k;list v 1;total 1 a 5;punch 1 k 1;");
    }

    private static Tabulator withoutPlugs() {
        return Check.machine("card 112;card 125x;card 11b;card 299x;");
    }

    // comparing

    private static void checkAll(String name, List<Refused> refused, Supplier<Tabulator> machine) {
        List<Function<Tabulator, String>> pictures = List.of(Picture::machine, Picture::rest, Picture::plugs, Picture::wholeRun,
            Picture::text, Picture::slots);
        List<String> due = new ArrayList<>();
        for (Function<Tabulator, String> picture : pictures) {
            due.add(picture.apply(machine.get()));
        }
        for (Refused call : refused) {
            for (int i = 0; i < due.size(); i++) {
                Tabulator x = machine.get();
                Check.same(call.call + ", " + name, call.due, thrown(call, x));
                Check.same(call.call + ", " + name + ", changes nothing", due.get(i), pictures.get(i).apply(x));
            }
        }
    }

    private static String thrown(Refused call, Tabulator x) {
        try {
            call.made.accept(x);
            return "nothing";
        } catch (RuntimeException e) {
            return e.getClass().getSimpleName();
        }
    }

    private static void index(String call, Consumer<Tabulator> made) {
        calls.add(new Refused(call, INDEX, made));
    }

    private static void argument(String call, Consumer<Tabulator> made) {
        calls.add(new Refused(call, ARGUMENT, made));
    }

    private static void state(String call, Consumer<Tabulator> made) {
        calls.add(new Refused(call, STATE, made));
    }

    // Promises 3 and 6 to 17

    private static void deckCalls() {
        for (int length : new int[] {-1, 21, 1100, MIN, MAX}) {
            argument("3 load(" + length + ")", x -> x.load(length));
        }
        for (int card : NO_CARD) {
            index("7 column, card " + card, x -> x.column(card, 1));
            index("7 column, card " + card + " and column 21", x -> x.column(card, 21));
            index("8 fieldValue, card " + card, x -> x.fieldValue(card, 0));
            index("9 breakLevel, card " + card, x -> x.breakLevel(card));
            index("11 groupOf, card " + card, x -> x.groupOf(card, 1));
            index("11 groupOf, card " + card + " before level 0", x -> x.groupOf(card, 0));
            index("11 groupOf, card " + card + " before level 4", x -> x.groupOf(card, 4));
            index("17 earlierMatch, card " + card, x -> x.earlierMatch(card, 0));
            index("17 earlierMatch, card " + card + " and field 2", x -> x.earlierMatch(card, 2));
        }
        for (int column : NO_COLUMN) {
            index("7 column " + column, x -> x.column(0, column));
            index("7 column " + column, x -> x.column(3, column));
        }
        for (int level : NO_LEVEL) {
            argument("10 groupCount, level " + level, x -> x.groupCount(level));
            argument("11 groupOf, level " + level, x -> x.groupOf(0, level));
            argument("12 groupSum, level " + level, x -> x.groupSum(0, level, 0));
            argument("12 groupSum, level " + level + " and group -1", x -> x.groupSum(0, level, -1));
            argument("13 greatestGroup, level " + level, x -> x.greatestGroup(0, level));
        }
        for (int field : NO_FIELD) {
            index("8 fieldValue, field " + field, x -> x.fieldValue(0, field));
            index("12 groupSum, field " + field, x -> x.groupSum(field, 1, 0));
            index("12 groupSum, field " + field + " before level 0", x -> x.groupSum(field, 0, 0));
            index("12 groupSum, field " + field + " before group -1", x -> x.groupSum(field, 1, -1));
            index("12 groupSum, field " + field + " before group 2", x -> x.groupSum(field, 1, 2));
            index("13 greatestGroup, field " + field, x -> x.greatestGroup(field, 1));
            index("13 greatestGroup, field " + field + " before level 4", x -> x.greatestGroup(field, 4));
            index("14 mean, field " + field, x -> x.mean(field));
            index("15 movingAverage, field " + field, x -> x.movingAverage(field, 0.5f));
            index("16 firstOutOfSequence, field " + field, x -> x.firstOutOfSequence(field));
            index("17 earlierMatch, field " + field, x -> x.earlierMatch(0, field));
        }
        groupsAndWeights();
    }

    private static void groupsAndWeights() {
        for (int level = 1; level <= 3; level++) {
            int some = level;
            for (int group : new int[] {-1, 2, 3, 4, 39, 40, MIN, MAX}) {
                argument("12 groupSum, level " + level + ", group " + group, x -> x.groupSum(1, some, group));
            }
        }
        for (float weight : NO_WEIGHT) {
            argument("15 movingAverage, weight " + weight, x -> x.movingAverage(1, weight));
            index("15 movingAverage, field 2 before weight " + weight, x -> x.movingAverage(2, weight));
            index("15 movingAverage, field -1 before weight " + weight, x -> x.movingAverage(-1, weight));
        }
    }

    // Promises 18 to 24

    private static void changeCalls() {
        for (int card : NO_CARD) {
            index("19 removeCard, card " + card, x -> x.removeCard(card));
            index("20 copyCard, card " + card, x -> x.copyCard(card));
            index("21 setColumn, card " + card, x -> x.setColumn(card, 1, 1));
            index("21 setColumn, card " + card + " before code 10", x -> x.setColumn(card, 1, 10));
        }
        for (int column : NO_COLUMN) {
            index("21 setColumn, column " + column, x -> x.setColumn(0, column, 1));
            index("21 setColumn, column " + column + " before code -2", x -> x.setColumn(0, column, -2));
        }
        for (int code : NO_CODE) {
            argument("21 setColumn, code " + code, x -> x.setColumn(0, 1, code));
            argument("21 setColumn, code " + code, x -> x.setColumn(3, 20, code));
        }
        for (int field : NO_FIELD) {
            index("18 sort, field " + field, x -> x.sort(field));
            index("22 plugCounter, field " + field, x -> x.plugCounter(0, field, 0));
            index("22 plugCounter, field " + field + " before mode 3", x -> x.plugCounter(0, field, 3));
            if (field != Tabulator.NONE) {
                index("24 plugControl, field " + field, x -> x.plugControl(1, field));
                index("24 plugControl, field " + field + " before level 0", x -> x.plugControl(0, field));
                index("24 plugControl, field " + field + " before level 4", x -> x.plugControl(4, field));
            }
        }
        index("24 plugControl, field -2", x -> x.plugControl(2, -2));
        index("24 plugControl, field -3", x -> x.plugControl(4, -3));
        for (int counter : NO_COUNTER) {
            index("22 plugCounter, counter " + counter, x -> x.plugCounter(counter, 0, 0));
            index("22 plugCounter, counter " + counter + " before mode -1", x -> x.plugCounter(counter, 0, -1));
            index("23 plugSelector, counter " + counter, x -> x.plugSelector(counter, 0, true));
            index("23 plugSelector, counter " + counter, x -> x.plugSelector(counter, Tabulator.NONE, false));
        }
        for (int mode : NO_MODE) {
            argument("22 plugCounter, mode " + mode, x -> x.plugCounter(1, 0, mode));
        }
        for (int selector : new int[] {-2, -3, 2, 3, 5, 6, MIN, MAX}) {
            index("23 plugSelector, selector " + selector, x -> x.plugSelector(0, selector, false));
            index("23 plugSelector, selector " + selector, x -> x.plugSelector(2, selector, true));
        }
        for (int level : NO_LEVEL) {
            argument("24 plugControl, level " + level, x -> x.plugControl(level, 0));
            argument("24 plugControl, level " + level + ", no field", x -> x.plugControl(level, Tabulator.NONE));
        }
    }

    // Promises 27 to 38, 43 and 44

    private static void machineCalls() {
        for (int count : NO_COUNT) {
            argument("27 run(" + count + ")", x -> x.run(count));
        }
        for (int counter : NO_COUNTER) {
            index("30 counter(" + counter + ")", x -> x.counter(counter));
            index("31 overflows(" + counter + ")", x -> x.overflows(counter));
        }
        for (int selector : NO_SELECTOR) {
            index("32 isSelected(" + selector + ")", x -> x.isSelected(selector));
        }
        for (int level : NO_LEVEL) {
            argument("33 groups(" + level + ")", x -> x.groups(level));
        }
        for (int line : new int[] {-1, 6, 7, 119, 120, 121, MIN, MAX}) {
            index("35 lineCharacter, line " + line, x -> x.lineCharacter(line, 1));
            index("35 lineCharacter, line " + line + " and position 41", x -> x.lineCharacter(line, 41));
            index("36 lineLevel, line " + line, x -> x.lineLevel(line));
        }
        for (int position : NO_POSITION) {
            index("35 lineCharacter, position " + position, x -> x.lineCharacter(0, position));
            index("35 lineCharacter, position " + position, x -> x.lineCharacter(2, position));
        }
        for (int summary : new int[] {-1, 2, 3, 39, 40, 41, MIN, MAX}) {
            index("38 summaryColumn, card " + summary, x -> x.summaryColumn(summary, 1));
            index("38 summaryColumn, card " + summary + " and column 0", x -> x.summaryColumn(summary, 0));
        }
        for (int column : NO_COLUMN) {
            index("38 summaryColumn, column " + column, x -> x.summaryColumn(0, column));
        }
        for (int slot : NO_SLOT) {
            index("43 save(" + slot + ")", x -> x.save(slot));
            index("44 restore(" + slot + ")", x -> x.restore(slot));
        }
        state("44 restore(0)", x -> x.restore(0));
        state("44 restore(2)", x -> x.restore(2));
    }

    // Promises 40 to 42

    private static void trialCalls() {
        for (int counter : NO_COUNTER) {
            index("40 neededWidth(" + counter + ")", x -> x.neededWidth(counter));
            index("42 crossfootErrors, a " + counter, x -> x.crossfootErrors(counter, 0, 0));
            index("42 crossfootErrors, b " + counter, x -> x.crossfootErrors(0, counter, 0));
            index("42 crossfootErrors, sum " + counter, x -> x.crossfootErrors(0, 0, counter));
            index("42 crossfootErrors, all " + counter, x -> x.crossfootErrors(counter, counter, counter));
        }
        for (int card : NO_CARD) {
            index("41 linesDependingOn(" + card + ")", x -> x.linesDependingOn(card));
        }
    }

    // states

    /** Three cards are processed: there are three lines and no summary card. */
    private static void callsRefusedUnderWay() {
        state("25 restack", x -> x.restack());
        for (int line : new int[] {3, 4, 5}) {
            index("35 lineCharacter, line " + line, x -> x.lineCharacter(line, 1));
            index("36 lineLevel, line " + line, x -> x.lineLevel(line));
        }
        for (int summary : new int[] {0, 1}) {
            index("38 summaryColumn, card " + summary, x -> x.summaryColumn(summary, 1));
        }
    }

    private static void callsRefusedWhenFinished() {
        for (int count : new int[] {1, 2, 39, 40}) {
            state("27 run(" + count + ")", x -> x.run(count));
        }
        for (int count : NO_COUNT) {
            argument("27 run, count " + count + " before the state", x -> x.run(count));
        }
        state("28 finish", x -> x.finish());
    }

    private static void callsRefusedOfAFullDeck() {
        for (int card : new int[] {0, 1, 20, 38, 39}) {
            state("20 copyCard(" + card + ")", x -> x.copyCard(card));
        }
        for (int card : new int[] {-1, 40, 41, MIN, MAX}) {
            index("20 copyCard, card " + card + " before the state", x -> x.copyCard(card));
        }
    }

    private static void callsRefusedOfANewObject() {
        callsThatNeedACard();
        callsThatNeedPlugs();
        argument("3 load(1)", x -> x.load(1));
        state("25 restack", x -> x.restack());
        for (int slot = 0; slot < 3; slot++) {
            int some = slot;
            state("44 restore(" + slot + ")", x -> x.restore(some));
        }
        for (int level : NO_LEVEL) {
            argument("10 groupCount, level " + level, x -> x.groupCount(level));
            argument("24 plugControl, level " + level, x -> x.plugControl(level, Tabulator.NONE));
            argument("33 groups, level " + level, x -> x.groups(level));
        }
    }

    private static void callsRefusedOfAnEmptyDeck() {
        callsThatNeedACard();
        state("25 restack", x -> x.restack());
        for (int group : new int[] {-1, 0, 1, MAX}) {
            argument("12 groupSum, group " + group, x -> x.groupSum(0, 1, group));
        }
        for (int level : NO_LEVEL) {
            argument("12 groupSum, level " + level, x -> x.groupSum(0, level, 0));
            argument("13 greatestGroup, level " + level, x -> x.greatestGroup(0, level));
        }
        for (float weight : NO_WEIGHT) {
            argument("15 movingAverage, weight " + weight, x -> x.movingAverage(0, weight));
        }
    }

    private static void callsRefusedOfAnEmptyPlugboard() {
        callsThatNeedPlugs();
        state("25 restack", x -> x.restack());
    }

    private static void callsThatNeedACard() {
        for (int card : new int[] {-1, 0, 1, MAX}) {
            index("7 column(" + card + ", 1)", x -> x.column(card, 1));
            index("8 fieldValue(" + card + ", 0)", x -> x.fieldValue(card, 0));
            index("9 breakLevel(" + card + ")", x -> x.breakLevel(card));
            index("11 groupOf(" + card + ", 1)", x -> x.groupOf(card, 1));
            index("11 groupOf(" + card + ", 0)", x -> x.groupOf(card, 0));
            index("17 earlierMatch(" + card + ", 0)", x -> x.earlierMatch(card, 0));
            index("19 removeCard(" + card + ")", x -> x.removeCard(card));
            index("20 copyCard(" + card + ")", x -> x.copyCard(card));
            index("21 setColumn(" + card + ", 1, 1)", x -> x.setColumn(card, 1, 1));
            index("21 setColumn(" + card + ", 1, 10)", x -> x.setColumn(card, 1, 10));
            index("35 lineCharacter(" + card + ", 1)", x -> x.lineCharacter(card, 1));
            index("36 lineLevel(" + card + ")", x -> x.lineLevel(card));
            index("38 summaryColumn(" + card + ", 1)", x -> x.summaryColumn(card, 1));
            index("41 linesDependingOn(" + card + ")", x -> x.linesDependingOn(card));
        }
    }

    private static void callsThatNeedPlugs() {
        for (int number : new int[] {0, 1, -2, MAX}) {
            index("8 fieldValue(0, " + number + ")", x -> x.fieldValue(0, number));
            index("12 groupSum(" + number + ", 1, 0)", x -> x.groupSum(number, 1, 0));
            index("12 groupSum(" + number + ", 0, 9)", x -> x.groupSum(number, 0, 9));
            index("13 greatestGroup(" + number + ", 1)", x -> x.greatestGroup(number, 1));
            index("13 greatestGroup(" + number + ", 0)", x -> x.greatestGroup(number, 0));
            index("14 mean(" + number + ")", x -> x.mean(number));
            index("15 movingAverage(" + number + ", 1)", x -> x.movingAverage(number, 1f));
            index("15 movingAverage(" + number + ", NaN)", x -> x.movingAverage(number, Float.NaN));
            index("16 firstOutOfSequence(" + number + ")", x -> x.firstOutOfSequence(number));
            index("17 earlierMatch(0, " + number + ")", x -> x.earlierMatch(0, number));
            index("18 sort(" + number + ")", x -> x.sort(number));
            index("22 plugCounter(" + number + ", 0, 0)", x -> x.plugCounter(number, 0, 0));
            index("22 plugCounter(" + number + ", 0, 3)", x -> x.plugCounter(number, 0, 3));
            index("23 plugSelector(" + number + ", -1)", x -> x.plugSelector(number, Tabulator.NONE, false));
            index("24 plugControl(1, " + number + ")", x -> x.plugControl(1, number));
            index("24 plugControl(4, " + number + ")", x -> x.plugControl(4, number));
            index("30 counter(" + number + ")", x -> x.counter(number));
            index("31 overflows(" + number + ")", x -> x.overflows(number));
            index("32 isSelected(" + number + ")", x -> x.isSelected(number));
            index("40 neededWidth(" + number + ")", x -> x.neededWidth(number));
            index("42 crossfootErrors(" + number + ")", x -> x.crossfootErrors(number, number, number));
        }
    }
}

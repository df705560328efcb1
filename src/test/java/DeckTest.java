/** Promises 6 to 17: the deck and what is found in it. */
public final class DeckTest {
    /** Values of u: 5, 11, 5, 60, 7; signed: 5, -11, 5, 60, -7. Controls: level 1 c, level 2 d. */
    private static final String TEXT =
        "field u 1 2; field c 3 3; field d 4 4; field one 2 2; control 1 c; control 2 d;"
        + "card 0511; card 1b11; card .521; card 6.22; card xh2b; ";

    private DeckTest() {
    }

    public static void main(String[] args) {
        cardCount();
        column();
        fieldValue();
        breakLevel();
        groups();
        groupSum();
        greatestGroup();
        mean();
        movingAverage();
        firstOutOfSequence();
        earlierMatch();
        emptyDeck();
        nothingChanges();
        Check.ends("DeckTest");
    }

    private static void cardCount() {
        Check.same("6 cardCount", 5, Check.machine(TEXT).cardCount());
        Check.same("6 cardCount", 0, Check.machine("field a 1 1;").cardCount());
    }

    private static void column() {
        Tabulator x = Check.machine(TEXT);
        Check.same("7 column", 5, x.column(0, 2));
        Check.same("7 column", 0, x.column(0, 1));
        Check.same("7 column", 101, x.column(1, 2));
        Check.same("7 column", -1, x.column(2, 1));
        Check.same("7 column", 99, x.column(4, 1));
        Check.same("7 column", 107, x.column(4, 2));
        Check.same("7 column", -1, x.column(4, 20));
        Check.throwsIndex("7 column", () -> x.column(-1, 1));
        Check.throwsIndex("7 column", () -> x.column(5, 1));
        Check.throwsIndex("7 column", () -> x.column(0, 0));
        Check.throwsIndex("7 column", () -> x.column(0, 21));
        Check.throwsIndex("7 column", () -> x.column(4, -1));
        Check.throwsIndex("7 column", () -> x.column(Integer.MAX_VALUE, Integer.MIN_VALUE));
        Tabulator last = Check.machine("card 01234567890123456789; card ...................j;");
        Check.same("7 last column", 9, last.column(0, 20));
        Check.same("7 last column", 109, last.column(1, 20));
        Check.same("7 first column", -1, last.column(1, 1));
    }

    private static void fieldValue() {
        Tabulator x = Check.machine(TEXT);
        long[] values = {5, -11, 5, 60, -7};
        for (int card = 0; card < 5; card++) {
            Check.same("8 fieldValue", values[card], x.fieldValue(card, 0));
        }
        Check.same("8 X above the last column alone makes it negative", -1L, x.fieldValue(4, 2));
        Check.throwsIndex("8 fieldValue", () -> x.fieldValue(-1, 0));
        Check.throwsIndex("8 fieldValue", () -> x.fieldValue(5, 0));
        Check.throwsIndex("8 fieldValue", () -> x.fieldValue(0, -1));
        Check.throwsIndex("8 fieldValue", () -> x.fieldValue(0, 4));
        Tabulator y = Check.machine("field long 12 20; field mid 1 3; card 1b3........jjjjjjjjj; card x2x; card bb.;");
        Check.same("8 nine digits", -999999999L, y.fieldValue(0, 0));
        Check.same("8 X above another column", 113L, y.fieldValue(0, 1));
        Check.same("8 X alone", -20L, y.fieldValue(1, 1));
        Check.same("8 empty last column", 110L, y.fieldValue(2, 1));
        Check.same("8 empty field", 0L, y.fieldValue(1, 0));
    }

    private static void breakLevel() {
        Tabulator x = Check.machine(TEXT);
        int[] levels = {0, 0, 1, 2, 2};
        for (int card = 0; card < 5; card++) {
            Check.same("9 breakLevel of " + card, levels[card], x.breakLevel(card));
        }
        Check.throwsIndex("9 breakLevel", () -> x.breakLevel(-1));
        Check.throwsIndex("9 breakLevel", () -> x.breakLevel(5));
        x.run(3);
        Check.same("9 breakLevel of card 0 after a run", 0, x.breakLevel(0));
        Tabulator same = Check.machine("field f 1 2; control 3 f; card 10; card b.; card 1x; card .1;");
        Check.same("9 X punches and empty columns are no other value", 0, same.breakLevel(1));
        Check.same("9 X punches and empty columns are no other value", 0, same.breakLevel(2));
        Check.same("9 level 3", 3, same.breakLevel(3));
        Tabulator none = Check.machine("field f 1 1; card 1; card 2;");
        Check.same("9 no control field", 0, none.breakLevel(1));
        Tabulator highest = Check.machine("field f 1 1; control 1 f; control 3 f; card 1; card 2;");
        Check.same("9 the highest level", 3, highest.breakLevel(1));
    }

    private static void groups() {
        Tabulator x = Check.machine(TEXT);
        Check.same("10 groupCount", 4, x.groupCount(1));
        Check.same("10 groupCount", 3, x.groupCount(2));
        Check.same("10 groupCount", 1, x.groupCount(3));
        Check.throwsArgument("10 groupCount", () -> x.groupCount(0));
        Check.throwsArgument("10 groupCount", () -> x.groupCount(4));
        Check.throwsArgument("10 groupCount", () -> x.groupCount(-1));
        int[][] groups = {{0, 0, 1, 2, 3}, {0, 0, 0, 1, 2}, {0, 0, 0, 0, 0}};
        for (int level = 1; level <= 3; level++) {
            for (int card = 0; card < 5; card++) {
                Check.same("11 groupOf " + card, groups[level - 1][card], x.groupOf(card, level));
            }
        }
        Check.throwsIndex("11 groupOf", () -> x.groupOf(-1, 1));
        Check.throwsIndex("11 groupOf", () -> x.groupOf(5, 1));
        Check.throwsIndex("11 groupOf", () -> x.groupOf(5, 0));
        Check.throwsArgument("11 groupOf", () -> x.groupOf(0, 0));
        Check.throwsArgument("11 groupOf", () -> x.groupOf(4, 4));
    }

    private static void groupSum() {
        Tabulator x = Check.machine(TEXT);
        Check.same("12 groupSum", -6L, x.groupSum(0, 1, 0));
        Check.same("12 groupSum", 5L, x.groupSum(0, 1, 1));
        Check.same("12 groupSum", -7L, x.groupSum(0, 1, 3));
        Check.same("12 groupSum", -1L, x.groupSum(0, 2, 0));
        Check.same("12 groupSum", 60L, x.groupSum(0, 2, 1));
        Check.same("12 groupSum", 52L, x.groupSum(0, 3, 0));
        Check.throwsIndex("12 groupSum", () -> x.groupSum(-1, 1, 0));
        Check.throwsIndex("12 groupSum", () -> x.groupSum(4, 0, 9));
        Check.throwsArgument("12 groupSum", () -> x.groupSum(0, 0, 0));
        Check.throwsArgument("12 groupSum", () -> x.groupSum(0, 4, 0));
        Check.throwsArgument("12 groupSum", () -> x.groupSum(0, 1, -1));
        Check.throwsArgument("12 groupSum", () -> x.groupSum(0, 1, 4));
        Check.throwsArgument("12 groupSum", () -> x.groupSum(0, 3, 1));
        StringBuilder text = new StringBuilder("field f 1 9;");
        for (int i = 0; i < 40; i++) {
            text.append("card 99999999j;");
        }
        Check.same("12 a sum beyond an int", -39999999960L, Check.machine(text.toString()).groupSum(0, 3, 0));
    }

    private static void greatestGroup() {
        Tabulator x = Check.machine(TEXT);
        Check.same("13 greatestGroup", 2, x.greatestGroup(0, 1));
        Check.same("13 greatestGroup", 1, x.greatestGroup(0, 2));
        Check.same("13 greatestGroup", 0, x.greatestGroup(0, 3));
        Check.throwsIndex("13 greatestGroup", () -> x.greatestGroup(4, 1));
        Check.throwsIndex("13 greatestGroup", () -> x.greatestGroup(-1, 0));
        Check.throwsArgument("13 greatestGroup", () -> x.greatestGroup(0, 0));
        Check.throwsArgument("13 greatestGroup", () -> x.greatestGroup(0, 4));
        Tabulator y = Check.machine("field c 1 1; field v 2 2; control 1 c; card 1d; card 2c; card 3c; card 4e;");
        Check.same("13 negative sums, the first of several", 1, y.greatestGroup(1, 1));
        Tabulator big = Check.machine("field c 10 10; field v 1 9; control 1 c;"
            + "card 9999999991; card 9999999991; card 9999999991; card 9999999992; card 9999999992;");
        Check.same("13 sums beyond an int", 0, big.greatestGroup(1, 1));
    }

    private static void mean() {
        Tabulator x = Check.machine(TEXT);
        Check.same("14 mean", 52 / 5.0, x.mean(0));
        Check.same("14 mean", 8 / 5.0, x.mean(1));
        Check.throwsIndex("14 mean", () -> x.mean(-1));
        Check.throwsIndex("14 mean", () -> x.mean(4));
        Check.same("14 mean", 1 / 3.0, Check.machine("field v 1 1; card 1; card .; card .;").mean(0));
        Check.same("14 negative mean", -2.5, Check.machine("field v 1 1; card c; card d;").mean(0));
    }

    private static void movingAverage() {
        Tabulator x = Check.machine(TEXT);
        Check.same("15 movingAverage", ((((5f + (-11f - 5f) * 0.5f) + 5f) / 2 + 60f) / 2 - 7f) / 2, x.movingAverage(0, 0.5f));
        Check.same("15 weight 1", -7f, x.movingAverage(0, 1f));
        float average = 5f;
        for (float value : new float[] {-11f, 5f, 60f, -7f}) {
            average = average + (value - average) * 0.3f;
        }
        Check.same("15 movingAverage", average, x.movingAverage(0, 0.3f));
        Check.same("15 the smallest weight", 5f, x.movingAverage(0, Float.MIN_VALUE));
        Check.throwsArgument("15 weight 0", () -> x.movingAverage(0, 0f));
        Check.throwsArgument("15 weight -0", () -> x.movingAverage(0, -0f));
        Check.throwsArgument("15 weight below 0", () -> x.movingAverage(0, -0.5f));
        Check.throwsArgument("15 weight above 1", () -> x.movingAverage(0, Math.nextUp(1f)));
        Check.throwsArgument("15 weight NaN", () -> x.movingAverage(0, Float.NaN));
        Check.throwsArgument("15 weight infinite", () -> x.movingAverage(0, Float.POSITIVE_INFINITY));
        Check.throwsIndex("15 field", () -> x.movingAverage(4, 0.5f));
        Check.throwsIndex("15 field before weight", () -> x.movingAverage(-1, Float.NaN));
        Tabulator big = Check.machine("field v 1 9; card 123456789; card 98765432b;");
        float first = (float) 123456789;
        float second = (float) -987654321;
        Check.same("15 values are converted to float", first + (second - first) * 0.7f, big.movingAverage(0, 0.7f));
        Check.same("15 one card", (float) 123456789, Check.machine("field v 1 9; card 123456789;").movingAverage(0, 0.1f));
    }

    private static void firstOutOfSequence() {
        Tabulator x = Check.machine(TEXT);
        Check.same("16 firstOutOfSequence", 2, x.firstOutOfSequence(0));
        Check.same("16 in sequence", -1, x.firstOutOfSequence(1));
        Check.same("16 firstOutOfSequence", 4, x.firstOutOfSequence(2));
        Check.throwsIndex("16 field", () -> x.firstOutOfSequence(-1));
        Check.throwsIndex("16 field", () -> x.firstOutOfSequence(4));
        Check.same("16 not signed", -1, Check.machine("field v 1 1; card 1; card c; card 2;").firstOutOfSequence(0));
        Check.same("16 one card", -1, Check.machine("field v 1 1; card 1;").firstOutOfSequence(0));
    }

    private static void earlierMatch() {
        Tabulator x = Check.machine(TEXT);
        Check.same("17 earlierMatch", -1, x.earlierMatch(0, 0));
        Check.same("17 earlierMatch", -1, x.earlierMatch(1, 0));
        Check.same("17 earlierMatch", 0, x.earlierMatch(2, 0));
        Check.same("17 the nearest", 2, x.earlierMatch(3, 1));
        Check.same("17 earlierMatch", -1, x.earlierMatch(3, 2));
        Check.same("17 not signed", 2, x.earlierMatch(4, 2));
        Check.throwsIndex("17 card", () -> x.earlierMatch(-1, 0));
        Check.throwsIndex("17 card", () -> x.earlierMatch(5, 0));
        Check.throwsIndex("17 field", () -> x.earlierMatch(0, -1));
        Check.throwsIndex("17 field", () -> x.earlierMatch(0, 4));
    }

    private static void emptyDeck() {
        Tabulator x = Check.machine("field v 1 1; control 1 v;");
        Check.same("10 groupCount", 0, x.groupCount(1));
        Check.throwsArgument("12 groupSum", () -> x.groupSum(0, 1, 0));
        Check.same("13 greatestGroup", -1, x.greatestGroup(0, 1));
        Check.same("14 mean", 0.0, x.mean(0));
        Check.same("15 movingAverage", 0.0f, x.movingAverage(0, 0.5f));
        Check.throwsArgument("15 movingAverage", () -> x.movingAverage(0, 2f));
        Check.same("16 firstOutOfSequence", -1, x.firstOutOfSequence(0));
        Check.throwsIndex("17 earlierMatch", () -> x.earlierMatch(0, 0));
        Check.throwsIndex("9 breakLevel", () -> x.breakLevel(0));
        Check.throwsIndex("11 groupOf", () -> x.groupOf(0, 1));
    }

    /** Questions about the deck neither move the machine nor change the cards. */
    private static void nothingChanges() {
        Tabulator x = Check.machine(TEXT + "counter k 5 u signed; list u 1;");
        x.run(3);
        x.column(0, 1);
        x.fieldValue(0, 0);
        x.breakLevel(1);
        x.groupCount(1);
        x.groupOf(1, 1);
        x.groupSum(0, 1, 0);
        x.greatestGroup(0, 1);
        x.mean(0);
        x.movingAverage(0, 0.5f);
        x.firstOutOfSequence(0);
        x.earlierMatch(2, 0);
        Check.same("processed", 3, x.processed());
        Check.same("counter", -1, x.counter(0));
        Check.same("lineCount", 3, x.lineCount());
        Check.same("deck", "0511 1b11 .521 6.22 xh2b", Check.deck(x));
    }
}

/**
 * The part CARDS and promises 6 to 17: a test for each sentence of the document that names a boundary case.
 * The sentence stands above its test. What is refused is in RefusalTest.
 */
public final class DeckLimitsTest {
    private static final String FULL_FIELD = "field v 1 9;";

    private DeckLimitsTest() {
    }

    public static void main(String[] args) {
        cards();
        breaks();
        groups();
        averages();
        sequences();
        Check.ends("DeckLimitsTest");
    }

    private static void cards() {
        numbersOfCards();
        firstAndLastColumns();
        codesOfColumns();
        emptyColumnsAndXAlone();
        mostSignificantFirst();
        shortestAndLongestFields();
        signs();
    }

    private static void breaks() {
        breakOfCard0();
        breaksOfNeighbours();
        breaksAreNotSigned();
        highestLevel();
        noControlField();
        greatDifferences();
    }

    private static void groups() {
        groupsOfAnEmptyDeck();
        groupsOfFewCards();
        groupsOfManyCards();
        groupsOfHigherLevels();
        lastGroup();
        sumsBeyondAnInt();
        groupOfAnEmptyDeck();
        firstOfSeveral();
        greatestOfNegativeSums();
        greatestBeyondAnInt();
    }

    private static void averages() {
        meanOfAnEmptyDeck();
        meanOfOneCard();
        meanBeyondAnInt();
        meanIsADouble();
        averageOfAnEmptyDeck();
        averageOfOneCard();
        weights();
        averageInFloatArithmetic();
    }

    private static void sequences() {
        sequenceOfFewCards();
        sequenceAtEachCard();
        equalValuesAreInSequence();
        sequenceIsNotSigned();
        noEarlierMatch();
        nearestMatch();
        matchIsNotSigned();
    }

    /** A deck of so many cards; the last one is another one. */
    private static Tabulator deckOf(int cards) {
        return Check.machine("field v 1 1;control 1 v;" + "card 1;".repeat(cards - 1) + "card 2;");
    }

    // CARDS, promises 6 to 8

    /** "Returns the number of cards of the deck." */
    private static void numbersOfCards() {
        Check.same("6 new object", 0, new Tabulator().cardCount());
        Check.same("6 empty text", 0, Check.machine("").cardCount());
        for (int cards : new int[] {1, 2, 39, 40}) {
            Check.same("6 cardCount", cards, deckOf(cards).cardCount());
        }
    }

    /** "card: number of the card, from 0", "column: 1 to 20" */
    private static void firstAndLastColumns() {
        Tabulator x = Check.machine("card 12345678901234567890; card abcdefghijabcdefghij; card 2..................j;");
        Check.same("7 first card, first column", 1, x.column(0, 1));
        Check.same("7 first card, last column", 0, x.column(0, 20));
        Check.same("7 first card, column 19", 9, x.column(0, 19));
        Check.same("7 second card, first column", 100, x.column(1, 1));
        Check.same("7 second card, last column", 109, x.column(1, 20));
        Check.same("7 last card, first column", 2, x.column(2, 1));
        Check.same("7 last card, second column", -1, x.column(2, 2));
        Check.same("7 last card, last column", 109, x.column(2, 20));
        Tabulator forty = Check.machine("card 1;".repeat(39) + "card 2.................35;");
        Check.same("7 card 39", 2, forty.column(39, 1));
        Check.same("7 card 39", 5, forty.column(39, 20));
        Check.same("7 card 38", -1, forty.column(38, 20));
    }

    /** "the digit, or -1 if there is none, plus 100 if there is an X punch" */
    private static void codesOfColumns() {
        Tabulator x = Check.machine("card 0123456789.xabcd; card efghij;");
        int[] codes = {0, 1, 2, 3, 4, 5, 6, 7, 8, 9, -1, 99, 100, 101, 102, 103};
        for (int i = 0; i < codes.length; i++) {
            Check.same("7 column " + (i + 1), codes[i], x.column(0, i + 1));
        }
        for (int i = 0; i < 6; i++) {
            Check.same("7 column " + (i + 1), 104 + i, x.column(1, i + 1));
        }
    }

    /** "an empty column, or one with an X punch alone, counts as 0 for values" */
    private static void emptyColumnsAndXAlone() {
        String[] cards = {"123", ".23", "1.3", "12.", "x23", "1x3", "12x", "...", "xxx", ".x.", "..x", "0"};
        long[] values = {123, 23, 103, 120, 23, 103, -120, 0, 0, 0, 0, 0};
        StringBuilder text = new StringBuilder("field v 1 3;");
        for (String card : cards) {
            text.append("card ").append(card).append(';');
        }
        Tabulator x = Check.machine(text.toString());
        for (int card = 0; card < cards.length; card++) {
            Check.same("8 fieldValue of " + cards[card], values[card], x.fieldValue(card, 0));
        }
    }

    /** "the first column being the most significant one" */
    private static void mostSignificantFirst() {
        Tabulator x = Check.machine("field v 3 5;field w 3 3;field y 5 5;card 00100; card 00020; card 00003;");
        Check.same("8 first column", 100L, x.fieldValue(0, 0));
        Check.same("8 second column", 20L, x.fieldValue(1, 0));
        Check.same("8 last column", 3L, x.fieldValue(2, 0));
        Check.same("8 the first column alone", 1L, x.fieldValue(0, 1));
        Check.same("8 the last column alone", 3L, x.fieldValue(2, 2));
        Check.same("8 another column", 0L, x.fieldValue(1, 1));
    }

    /** "FROM is 1 to 20, TO is FROM to 20, but at most FROM + 8": fields of 1 and of 9 columns, at both ends of the card */
    private static void shortestAndLongestFields() {
        Tabulator x = Check.machine("field a 1 1;field b 20 20;field c 1 9;field d 12 20;field e 2 10;"
            + "card 99999999900999999999; card 1000000000000000000b; card x..................x;");
        long[][] values = {{9, 9, 999999999, 999999999, 999999990}, {1, -1, 100000000, -1, 0}, {0, 0, 0, 0, 0}};
        for (int card = 0; card < 3; card++) {
            for (int field = 0; field < 5; field++) {
                Check.same("8 field " + field + " of card " + card, values[card][field], x.fieldValue(card, field));
            }
        }
        Check.same("8 the least value", -999999999L, Check.machine(FULL_FIELD + "card jjjjjjjjj;").fieldValue(0, 0));
    }

    /** "The signed value is the negative value if the last column of the field has an X punch." */
    private static void signs() {
        Tabulator x = Check.machine("field v 2 4;field w 2 3;card 1234; card a234; card 1b34; card 12c4; card 123d; card 123x; card 1..a; card 1234e;");
        long[] ofThree = {234, 234, 134, 224, -233, -230, 0, 234};
        long[] ofTwo = {23, 23, 13, -22, 23, 23, 0, 23};
        for (int card = 0; card < 8; card++) {
            Check.same("8 field v of card " + card, ofThree[card], x.fieldValue(card, 0));
            Check.same("8 field w of card " + card, ofTwo[card], x.fieldValue(card, 1));
        }
    }

    // Promise 9

    /** "0 for card 0" */
    private static void breakOfCard0() {
        Tabulator x = Check.machine("field v 1 1;control 1 v;control 2 v;control 3 v;card 9;card 8;");
        Check.same("9 card 0", 0, x.breakLevel(0));
        Check.same("9 card 1", 3, x.breakLevel(1));
        x.run(2);
        Check.same("9 card 0 behind the last card", 0, x.breakLevel(0));
        x.removeCard(0);
        Check.same("9 the only card", 0, x.breakLevel(0));
    }

    /** "with respect to the card before it in the deck": at the second, a middle and the last card alone */
    private static void breaksOfNeighbours() {
        for (int place = 1; place < 40; place++) {
            Tabulator x = Check.machine("field v 1 1;control 2 v;" + "card 1;".repeat(place) + "card 2;".repeat(40 - place));
            for (int card = 1; card < 40; card++) {
                Check.same("9 breakLevel of " + card, card == place ? 2 : 0, x.breakLevel(card));
            }
        }
        Tabulator back = Check.machine("field v 1 1;control 1 v;card 1;card 2;card 1;");
        Check.same("9 back to the value before", 1, back.breakLevel(2));
    }

    /** "has a value on this card other than on the card before (not signed)" */
    private static void breaksAreNotSigned() {
        Tabulator x = Check.machine("field v 1 2;control 1 v;card 10;card 1.;card 1x;card 1a;card a0;card b0;card .1;card x1;card 0b;card 1b;card 11;");
        int[] levels = {0, 0, 0, 0, 1, 1, 1, 0, 0, 1, 0};
        for (int card = 0; card < levels.length; card++) {
            Check.same("9 breakLevel of " + card, levels[card], x.breakLevel(card));
        }
    }

    /** "the highest level whose control field has a value on this card other than on the card before" */
    private static void highestLevel() {
        Tabulator x = Check.machine("field a 1 1;field b 2 2;field c 3 3;control 1 a;control 2 b;control 3 c;"
            + "card 000;card 100;card 110;card 111;card 001;card 010;card 110;card 100;card 001;");
        int[] levels = {0, 1, 2, 3, 2, 3, 1, 2, 3};
        for (int card = 0; card < levels.length; card++) {
            Check.same("9 breakLevel of " + card, levels[card], x.breakLevel(card));
        }
        for (int level = 1; level <= 3; level++) {
            Tabulator one = Check.machine("field a 1 1;control " + level + " a;card 1;card 2;");
            Check.same("9 the only control field", level, one.breakLevel(1));
        }
    }

    /** "0 if there is none" */
    private static void noControlField() {
        Check.same("9 no control field", 0, Check.machine("field a 1 1;card 1;card 2;").breakLevel(1));
        Check.same("9 no plugs at all", 0, Check.machine("card 1;card 2;").breakLevel(1));
        Check.same("9 the same values", 0, Check.machine("field a 1 1;control 3 a;card 12;card 13;").breakLevel(1));
    }

    /** A value of nine digits against one that differs in the first or in the last digit alone. */
    private static void greatDifferences() {
        Tabulator x = Check.machine(FULL_FIELD + "control 1 v;card 999999999;card 999999998;card 899999998;card 899999998;card 0;");
        int[] levels = {0, 1, 1, 0, 1};
        for (int card = 0; card < levels.length; card++) {
            Check.same("9 breakLevel of " + card, levels[card], x.breakLevel(card));
        }
    }

    // Promises 10 to 13

    /** "Returns the number of groups of the deck (0 for an empty deck)." */
    private static void groupsOfAnEmptyDeck() {
        for (int level = 1; level <= 3; level++) {
            Check.same("10 new object", 0, new Tabulator().groupCount(level));
            Check.same("10 no cards", 0, Check.machine("field a 1 1;control 1 a;").groupCount(level));
            Tabulator emptied = deckOf(1);
            emptied.removeCard(0);
            Check.same("10 all cards removed", 0, emptied.groupCount(level));
        }
    }

    /** "Groups are numbered from 0.", "of which no card but the first has a break level that is at least the level" */
    private static void groupsOfFewCards() {
        String plugs = "field a 1 1;control 1 a;";
        String[] decks = {"1", "11", "12", "112", "122", "121", "123"};
        String[] groups = {"0", "00", "01", "001", "011", "012", "012"};
        for (int i = 0; i < decks.length; i++) {
            StringBuilder text = new StringBuilder(plugs);
            for (char value : decks[i].toCharArray()) {
                text.append("card ").append(value).append(';');
            }
            Tabulator x = Check.machine(text.toString());
            StringBuilder got = new StringBuilder();
            for (int card = 0; card < decks[i].length(); card++) {
                got.append(x.groupOf(card, 1));
            }
            Check.same("11 groups of " + decks[i], groups[i], got.toString());
            Check.same("10 groupCount of " + decks[i], groups[i].charAt(groups[i].length() - 1) - '0' + 1, x.groupCount(1));
            Check.same("10 groupCount of level 2", 1, x.groupCount(2));
            Check.same("11 groupOf of level 2", 0, x.groupOf(decks[i].length() - 1, 2));
        }
    }

    /** Forty cards make one group, or two, or forty. */
    private static void groupsOfManyCards() {
        Tabulator one = Check.machine("field a 1 1;control 1 a;" + "card 1;".repeat(40));
        Check.same("10 one group", 1, one.groupCount(1));
        Check.same("11 of the last card", 0, one.groupOf(39, 1));
        Check.same("12 its sum", 40L, one.groupSum(0, 1, 0));
        Check.same("10 two groups", 2, deckOf(40).groupCount(1));
        Check.same("11 of the last card", 1, deckOf(40).groupOf(39, 1));
        Check.same("12 the last sum", 2L, deckOf(40).groupSum(0, 1, 1));
        Tabulator forty = Check.machine("field a 1 1;control 1 a;" + "card 1;card 3;".repeat(20));
        Check.same("10 forty groups", 40, forty.groupCount(1));
        Check.same("11 of the last card", 39, forty.groupOf(39, 1));
        Check.same("12 the last sum", 3L, forty.groupSum(0, 1, 39));
        Check.same("13 the first of the greatest", 1, forty.greatestGroup(0, 1));
        Check.throwsArgument("12 no group 40", () -> forty.groupSum(0, 1, 40));
    }

    /** "a break level that is at least the level" */
    private static void groupsOfHigherLevels() {
        for (int control = 1; control <= 3; control++) {
            Tabulator x = Check.machine("field a 1 1;control " + control + " a;card 1;card 2;card 3;");
            for (int level = 1; level <= 3; level++) {
                Check.same("10 groupCount of level " + level + " with control " + control, level <= control ? 3 : 1, x.groupCount(level));
                Check.same("11 groupOf of level " + level + " with control " + control, level <= control ? 2 : 0, x.groupOf(2, level));
            }
        }
    }

    /** "group: number of a group of this level, from 0" */
    private static void lastGroup() {
        Tabulator x = Check.machine("field a 1 1;field v 2 2;control 1 a;control 2 v;card 11;card 21;card 3b;card 42;");
        Check.same("12 level 1, group 0", 1L, x.groupSum(1, 1, 0));
        Check.same("12 level 1, group 2", -1L, x.groupSum(1, 1, 2));
        Check.same("12 level 1, the last group", 2L, x.groupSum(1, 1, 3));
        Check.throwsArgument("12 level 1, behind the last group", () -> x.groupSum(1, 1, 4));
        Check.same("12 level 2, group 0", 1L, x.groupSum(1, 2, 0));
        Check.same("12 level 2, the last group", 2L, x.groupSum(1, 2, 1));
        Check.throwsArgument("12 level 2, behind the last group", () -> x.groupSum(1, 2, 2));
        Check.throwsArgument("12 level 2, a group of level 1", () -> x.groupSum(1, 2, 3));
        Check.same("12 level 3, the only group", 3L, x.groupSum(1, 3, 0));
        Check.throwsArgument("12 level 3, behind the last group", () -> x.groupSum(1, 3, 1));
        Check.throwsArgument("12 level 3, a group of level 1", () -> x.groupSum(1, 3, 3));
    }

    /** "Returns the sum.": a long, beyond what an int holds */
    private static void sumsBeyondAnInt() {
        Tabulator x = Check.machine(FULL_FIELD + "card 999999999;".repeat(40));
        Check.same("12 greatest sum", 39999999960L, x.groupSum(0, 3, 0));
        Tabulator y = Check.machine(FULL_FIELD + "card 99999999j;".repeat(40));
        Check.same("12 least sum", -39999999960L, y.groupSum(0, 1, 0));
        Tabulator three = Check.machine(FULL_FIELD + "card 999999999;card 999999999;card 147483650;");
        Check.same("12 just above the greatest int", 2147483648L, three.groupSum(0, 1, 0));
        three.removeCard(2);
        Check.same("12 below it", 1999999998L, three.groupSum(0, 1, 0));
    }

    /** "NONE if the deck is empty" */
    private static void groupOfAnEmptyDeck() {
        for (int level = 1; level <= 3; level++) {
            Check.same("13 no cards", -1, Check.machine("field v 1 1;control 1 v;").greatestGroup(0, level));
            Check.same("13 one card", 0, deckOf(1).greatestGroup(0, level));
        }
        Check.same("13 the sum 0", 0, Check.machine("field v 1 1;card 0;").greatestGroup(0, 1));
    }

    /** "Returns the number of the group, the first of several" */
    private static void firstOfSeveral() {
        String[] decks = {"11", "12", "21", "122", "221", "212", "131", "313"};
        int[] groups = {0, 1, 0, 1, 0, 0, 1, 0};
        for (int i = 0; i < decks.length; i++) {
            StringBuilder text = new StringBuilder("field c 1 1;field v 2 2;control 1 c;");
            for (int card = 0; card < decks[i].length(); card++) {
                text.append("card ").append(card).append(decks[i].charAt(card)).append(';');
            }
            Check.same("13 greatest of " + decks[i], groups[i], Check.machine(text.toString()).greatestGroup(1, 1));
        }
    }

    /** "the group with the greatest sum": also if all sums are below 0 */
    private static void greatestOfNegativeSums() {
        Tabulator x = Check.machine("field c 1 1;field v 2 2;control 1 c;card 1e;card 2c;card 3b;card 4d;card 4e;");
        Check.same("13 greatestGroup", 2, x.greatestGroup(1, 1));
        x.setColumn(2, 2, 109);
        Check.same("13 greatestGroup", 1, x.greatestGroup(1, 1));
        x.setColumn(0, 2, 99);
        Check.same("13 an X alone is 0", 0, x.greatestGroup(1, 1));
    }

    /** "the group with the greatest sum": sums beyond what an int holds */
    private static void greatestBeyondAnInt() {
        String three = "card 9999999991;".repeat(3);
        Tabulator x = Check.machine("field v 1 9;field c 10 10;control 1 c;card 1000000000;" + three + "card 9999999992;");
        Check.same("13 a sum above the greatest int", 1, x.greatestGroup(0, 1));
        Tabulator y = Check.machine("field v 1 9;field c 10 10;control 1 c;" + "card 99999999j1;".repeat(3) + "card 99999999j2;");
        Check.same("13 a sum below the least int", 1, y.greatestGroup(0, 1));
    }

    // Promises 14 and 15

    /** "0.0 if the deck is empty" */
    private static void meanOfAnEmptyDeck() {
        Check.same("14 no cards", 0.0, Check.machine("field v 1 1;").mean(0));
        Tabulator emptied = deckOf(1);
        emptied.removeCard(0);
        Check.same("14 all cards removed", 0.0, emptied.mean(0));
    }

    /** "divided by the number of cards": by 1 */
    private static void meanOfOneCard() {
        Check.same("14 one card", 7.0, Check.machine("field v 1 1;card 7;").mean(0));
        Check.same("14 one negative card", -7.0, Check.machine("field v 1 1;card h;").mean(0));
        Check.same("14 a sum of 0", 0.0, Check.machine("field v 1 1;card h;card 7;").mean(0));
        Check.same("14 an X alone", 0.0, Check.machine("field v 1 1;card x;").mean(0));
    }

    /** "the sum of the values, as a double": the sum is beyond what an int holds */
    private static void meanBeyondAnInt() {
        Check.same("14 forty cards", 999999999.0, Check.machine(FULL_FIELD + "card 999999999;".repeat(40)).mean(0));
        Check.same("14 forty negative cards", -999999999.0, Check.machine(FULL_FIELD + "card 99999999j;".repeat(40)).mean(0));
        Check.same("14 three cards", 2147483648L / 3.0, Check.machine(FULL_FIELD + "card 999999999;card 999999999;card 147483650;").mean(0));
    }

    /** "the sum of the values, as a double, divided by the number of cards" */
    private static void meanIsADouble() {
        Check.same("14 a third", 1 / 3.0, Check.machine("field v 1 1;card 1;card 0;card 0;").mean(0));
        Check.same("14 no rounding", 5000000000L / 7.0, Check.machine(FULL_FIELD + "card 999999999;".repeat(5) + "card 000000005;card 0;").mean(0));
        Check.same("14 a sum that no float holds", 16777217 / 2.0, Check.machine(FULL_FIELD + "card 016777216;card 000000001;").mean(0));
    }

    /** "0.0f if the deck is empty" */
    private static void averageOfAnEmptyDeck() {
        for (float weight : new float[] {Float.MIN_VALUE, 0.5f, 1f}) {
            Check.same("15 no cards", 0.0f, Check.machine("field v 1 1;").movingAverage(0, weight));
        }
    }

    /** "It starts with the signed value of the field on card 0 (converted to float)" */
    private static void averageOfOneCard() {
        for (float weight : new float[] {Float.MIN_VALUE, 0.5f, 1f}) {
            Check.same("15 one card", -7f, Check.machine("field v 1 1;card h;").movingAverage(0, weight));
            Check.same("15 one card with a value that no float holds", 16777216f, Check.machine(FULL_FIELD + "card 016777217;").movingAverage(0, weight));
        }
    }

    /** "weight: more than 0 and at most 1" */
    private static void weights() {
        Tabulator x = Check.machine("field v 1 2;card 10;card 20;card 50;");
        Check.same("15 weight 1", 50f, x.movingAverage(0, 1f));
        Check.same("15 just below 1", 10f + 10f * Math.nextDown(1f) + (50f - (10f + 10f * Math.nextDown(1f))) * Math.nextDown(1f),
            x.movingAverage(0, Math.nextDown(1f)));
        Check.same("15 the least weight", 10f, x.movingAverage(0, Float.MIN_VALUE));
        Check.throwsArgument("15 weight 0", () -> x.movingAverage(0, 0f));
        Check.throwsArgument("15 weight -0", () -> x.movingAverage(0, -0f));
        Check.throwsArgument("15 just below 0", () -> x.movingAverage(0, -Float.MIN_VALUE));
        Check.throwsArgument("15 just above 1", () -> x.movingAverage(0, Math.nextUp(1f)));
        Check.throwsArgument("15 NaN", () -> x.movingAverage(0, Float.NaN));
    }

    /** "for each further card, in order, ... it becomes average + (v - average) * weight", in float arithmetic */
    private static void averageInFloatArithmetic() {
        Tabulator x = Check.machine(FULL_FIELD + "card 123456789;card 00000033c;card 016777217;card 99999999j;card 000000007;");
        float[] values = {123456789, -332, 16777217, -999999999, 7};
        for (float weight : new float[] {0.1f, 0.3f, 0.7f, 1f / 3, Math.nextDown(1f)}) {
            float average = values[0];
            for (int card = 1; card < values.length; card++) {
                average = average + (values[card] - average) * weight;
            }
            Check.same("15 movingAverage with " + weight, average, x.movingAverage(0, weight));
        }
        Check.same("15 two cards", 10f + (21f - 10f) * 0.1f, Check.machine("field v 1 2;card 10;card 21;").movingAverage(0, 0.1f));
    }

    // Promises 16 and 17

    /** "NONE if there is none" */
    private static void sequenceOfFewCards() {
        Check.same("16 no cards", -1, Check.machine("field v 1 1;").firstOutOfSequence(0));
        Check.same("16 one card", -1, Check.machine("field v 1 1;card 5;").firstOutOfSequence(0));
        Check.same("16 two cards", -1, Check.machine("field v 1 1;card 5;card 6;").firstOutOfSequence(0));
        Check.same("16 two cards", 1, Check.machine("field v 1 1;card 6;card 5;").firstOutOfSequence(0));
    }

    /** "the number of the first card on which the value ... is less than on the card before" */
    private static void sequenceAtEachCard() {
        for (int place = 1; place < 40; place++) {
            Tabulator x = Check.machine("field v 1 1;" + "card 2;".repeat(place) + "card 1;".repeat(40 - place));
            Check.same("16 firstOutOfSequence", place, x.firstOutOfSequence(0));
        }
        Check.same("16 the first of several", 2, Check.machine("field v 1 1;card 4;card 5;card 3;card 2;card 9;card 1;").firstOutOfSequence(0));
        Check.same("16 less by one in the last digit", 1, Check.machine(FULL_FIELD + "card 999999999;card 999999998;").firstOutOfSequence(0));
    }

    /** "less than on the card before": equal values are in sequence */
    private static void equalValuesAreInSequence() {
        Check.same("16 equal values", -1, Check.machine("field v 1 1;" + "card 7;".repeat(40)).firstOutOfSequence(0));
        Check.same("16 empty columns and 0", -1, Check.machine("field v 1 2;card 00;card ..;card x;card .x;card 0;card 01;").firstOutOfSequence(0));
    }

    /** "the value of the field (not signed)" */
    private static void sequenceIsNotSigned() {
        Check.same("16 in sequence without the signs", -1, Check.machine("field v 1 1;card 1;card c;card 3;card d;card 4;").firstOutOfSequence(0));
        Check.same("16 out of sequence without the signs", 1, Check.machine("field v 1 1;card j;card i;card h;").firstOutOfSequence(0));
    }

    /** "Returns its number; NONE if there is none." */
    private static void noEarlierMatch() {
        Tabulator x = Check.machine("field v 1 1;card 1;card 2;card 3;card 1;");
        Check.same("17 the first card", -1, x.earlierMatch(0, 0));
        Check.same("17 no match", -1, x.earlierMatch(1, 0));
        Check.same("17 no match", -1, x.earlierMatch(2, 0));
        Check.same("17 the first card matches", 0, x.earlierMatch(3, 0));
        Check.same("17 a later card is no match", -1, Check.machine("field v 1 1;card 1;card 1;").earlierMatch(0, 0));
    }

    /** "the nearest card before a card with the same value" */
    private static void nearestMatch() {
        Tabulator x = Check.machine("field v 1 1;" + "card 1;".repeat(39) + "card 2;");
        for (int card = 0; card < 39; card++) {
            Check.same("17 the card directly before", card - 1, x.earlierMatch(card, 0));
        }
        Check.same("17 the last card", -1, x.earlierMatch(39, 0));
        Tabulator far = Check.machine("field v 1 1;card 2;" + "card 1;".repeat(38) + "card 2;");
        Check.same("17 the farthest card", 0, far.earlierMatch(39, 0));
    }

    /** "with the same value of a field (not signed)" */
    private static void matchIsNotSigned() {
        Tabulator x = Check.machine("field v 1 2;card 10;card 1a;card 1.;card 1x;card b0;card b1;card 1a;");
        int[] matches = {-1, 0, 1, 2, 3, -1, 4};
        for (int card = 0; card < matches.length; card++) {
            Check.same("17 match of " + card, matches[card], x.earlierMatch(card, 0));
        }
    }
}

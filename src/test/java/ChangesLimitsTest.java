import java.util.ArrayList;
import java.util.List;
import java.util.function.Consumer;

/**
 * Promises 18 to 25: a test for each sentence of the document that names a boundary case.
 * The sentence stands above its test. What is refused is in RefusalTest.
 */
public final class ChangesLimitsTest {
    /** As many fields, selectors and counters as there may be; field i and counter i stand for column i + 1. */
    private static final String MANY = fields() + selectors() + counters();

    private ChangesLimitsTest() {
    }

    public static void main(String[] args) {
        resets();
        sorting();
        removing();
        copying();
        columns();
        plugs();
        restacking();
        Check.ends("ChangesLimitsTest");
    }

    private static void resets() {
        changesReset();
        changesOfNothingReset();
        changesEndTheFinishedState();
    }

    private static void sorting() {
        sortOfFewCards();
        sortOfManyCards();
        equalCardsKeepTheirOrder();
        sortIsNotSigned();
        movedCards();
    }

    private static void removing() {
        removeFirstAndLast();
        removeTheOnlyCard();
        removeOfAFullDeck();
    }

    private static void copying() {
        copyFirstAndLast();
        copyToAFullDeck();
        copyBehindARemoval();
    }

    private static void columns() {
        allCodes();
        firstAndLastColumns();
        codesDecideValues();
    }

    private static void plugs() {
        modes();
        lastCountersAndFields();
        selectorsOfCounters();
        noSelector();
        controls();
        noControl();
    }

    private static void restacking() {
        numbersOfSummaryCards();
        summaryCardsThatAreKept();
        restackOfAMachineUnderWay();
        summaryCardsAreGone();
    }

    private static String fields() {
        StringBuilder text = new StringBuilder();
        for (int i = 1; i <= 8; i++) {
            text.append("field f").append((char) ('a' + i - 1)).append(' ').append(i).append(' ').append(i).append(';');
        }
        return text.toString();
    }

    private static String selectors() {
        StringBuilder text = new StringBuilder();
        for (int i = 1; i <= 6; i++) {
            text.append("selector s").append((char) ('a' + i - 1)).append(' ').append(i).append(" 10;");
        }
        return text.toString();
    }

    private static String counters() {
        StringBuilder text = new StringBuilder();
        for (int i = 0; i < 6; i++) {
            text.append("counter c").append((char) ('a' + i)).append(" 3 f").append((char) ('a' + i)).append(" add;");
        }
        return text.toString();
    }

    // "each of them resets the machine"

    private static List<Consumer<Tabulator>> changes() {
        List<Consumer<Tabulator>> changes = new ArrayList<>();
        changes.add(x -> x.sort(1));
        changes.add(x -> x.removeCard(0));
        changes.add(x -> x.removeCard(3));
        changes.add(x -> x.copyCard(0));
        changes.add(x -> x.copyCard(3));
        changes.add(x -> x.setColumn(0, 20, 109));
        changes.add(x -> x.plugCounter(2, 0, 1));
        changes.add(x -> x.plugSelector(0, 1, true));
        changes.add(x -> x.plugControl(2, 1));
        return changes;
    }

    /** Changes that plug and punch what is there already. */
    private static List<Consumer<Tabulator>> changesOfNothing() {
        List<Consumer<Tabulator>> changes = new ArrayList<>();
        changes.add(x -> Check.same("18 sort of a sorted deck", 0, x.sort(0)));
        changes.add(x -> Check.same("21 the same code", 101, x.setColumn(2, 3, 101)));
        changes.add(x -> Check.same("21 the same code", -1, x.setColumn(3, 20, -1)));
        changes.add(x -> Check.same("22 the same field and mode", 1, x.plugCounter(0, 1, 2)));
        changes.add(x -> Check.same("23 the same selector", 0, x.plugSelector(1, 0, false)));
        changes.add(x -> Check.same("23 no selector again", -1, x.plugSelector(0, -1, false)));
        changes.add(x -> Check.same("24 the same control field", 0, x.plugControl(1, 0)));
        changes.add(x -> Check.same("24 no control field again", -1, x.plugControl(2, -1)));
        return changes;
    }

    /** "each of them resets the machine": what stands then is as after the same change of a new machine */
    private static void changesReset() {
        int number = 0;
        for (Consumer<Tabulator> change : changes()) {
            Tabulator due = Picture.underWay(0);
            change.accept(due);
            String picture = Picture.machine(due);
            for (int cards = 0; cards <= 5; cards++) {
                Tabulator x = cards == 5 ? Picture.finished() : Picture.underWay(cards);
                change.accept(x);
                Check.same("change " + number + " behind " + cards + " cards resets", picture, Picture.machine(x));
            }
            number++;
        }
    }

    /** "each of them resets the machine", also where nothing else is changed */
    private static void changesOfNothingReset() {
        String picture = Picture.machine(Picture.underWay(0));
        for (Consumer<Tabulator> change : changesOfNothing()) {
            for (int cards = 0; cards <= 5; cards++) {
                Tabulator x = cards == 5 ? Picture.finished() : Picture.underWay(cards);
                change.accept(x);
                Check.same("a change of nothing behind " + cards + " cards resets", picture, Picture.machine(x));
            }
        }
    }

    /** "The machine is finished then, until it is reset." */
    private static void changesEndTheFinishedState() {
        List<Consumer<Tabulator>> all = changes();
        all.addAll(changesOfNothing());
        all.add(x -> x.restack());
        all.add(x -> x.reset());
        all.add(x -> Check.load(x, "card 1;"));
        for (Consumer<Tabulator> change : all) {
            Tabulator x = Picture.finished();
            Check.throwsState("27 finished", () -> x.run(1));
            change.accept(x);
            Check.same("27 not finished", 1, x.run(1));
            x.finish();
            Check.throwsState("28 finished again", () -> x.finish());
        }
    }

    // Promise 18

    /** "Returns the number of cards that have another number now than before.", with no, one and two cards */
    private static void sortOfFewCards() {
        Check.same("18 no cards", 0, Check.machine("field v 1 1;").sort(0));
        Check.same("18 one card", 0, Check.machine("field v 1 1;card 5;").sort(0));
        Check.same("18 two cards in order", 0, Check.machine("field v 1 1;card 5;card 6;").sort(0));
        Check.same("18 two equal cards", 0, Check.machine("field v 1 1;card 5;card 5;").sort(0));
        Tabulator x = Check.machine("field v 1 1;card 6;card 5;");
        Check.same("18 two cards out of order", 2, x.sort(0));
        Check.same("18 deck", "5 6", Check.deck(x));
    }

    /** "in ascending order", with as many cards as there may be, and by a field of nine columns */
    private static void sortOfManyCards() {
        StringBuilder text = new StringBuilder("field v 1 9;field n 10 11;");
        for (int i = 0; i < 40; i++) {
            text.append("card 9999999").append(10 + i * 7 % 40).append(10 + i).append(';');
        }
        Tabulator x = Check.machine(text.toString());
        x.sort(0);
        for (int card = 0; card < 40; card++) {
            Check.same("18 value of card " + card, 999999910L + card, x.fieldValue(card, 0));
            // 7 times 23 is 161, which is 1 more than four times 40
            Check.same("18 mark of card " + card, 10L + card * 23 % 40, x.fieldValue(card, 1));
        }
        Check.same("18 sort again", 0, x.sort(0));
    }

    /** "cards with equal values keep their order" */
    private static void equalCardsKeepTheirOrder() {
        StringBuilder text = new StringBuilder("field v 1 1;field n 2 3;");
        for (int i = 0; i < 40; i++) {
            text.append("card ").append("312".charAt(i % 3)).append(10 + i).append(';');
        }
        Tabulator x = Check.machine(text.toString());
        x.sort(0);
        int place = 0;
        for (int first : new int[] {1, 2, 0}) {
            for (int i = first; i < 40; i += 3) {
                Check.same("18 card " + place, 10L + i, x.fieldValue(place, 1));
                place++;
            }
        }
        Tabulator equal = Check.machine("field v 1 1;field n 2 3;card .13;card 012;card x11;card j10;card .09;");
        Check.same("18 empty columns and 0 are equal", 2, equal.sort(0));
        Check.same("18 deck", ".13 012 x11 .09 j10", Check.deck(equal));
    }

    /** "by the value of a field (not signed)" */
    private static void sortIsNotSigned() {
        Tabulator x = Check.machine("field v 1 2;card 1e;card 14;card 1d;card 13;");
        Check.same("18 sort", 4, x.sort(0));
        Check.same("18 deck", "1d 13 1e 14", Check.deck(x));
    }

    /** "the number of cards that have another number now than before" */
    private static void movedCards() {
        String[] decks = {"123", "213", "132", "321", "231", "312", "1111", "2111", "1112", "4321", "1432", "54321"};
        int[] moved = {0, 2, 2, 2, 3, 3, 0, 4, 0, 4, 2, 4};
        for (int i = 0; i < decks.length; i++) {
            StringBuilder text = new StringBuilder("field v 1 1;");
            for (char value : decks[i].toCharArray()) {
                text.append("card ").append(value).append(';');
            }
            Check.same("18 sort of " + decks[i], moved[i], Check.machine(text.toString()).sort(0));
        }
    }

    // Promise 19

    /** "Removes a card from the deck.": the first, a middle, the last one */
    private static void removeFirstAndLast() {
        String[] due = {"2b 3x 4", "1a 3x 4", "1a 2b 4", "1a 2b 3x"};
        for (int card = 0; card < 4; card++) {
            Tabulator x = Check.machine("card 1a;card 2b;card 3x;card 4;");
            Check.same("19 removeCard(" + card + ")", 3, x.removeCard(card));
            Check.same("19 deck", due[card], Check.deck(x));
            Check.throwsIndex("19 the last number is gone", () -> x.column(3, 1));
        }
    }

    /** "Returns the number of cards then.": 0 */
    private static void removeTheOnlyCard() {
        Tabulator x = Check.machine("field v 1 1;card 1;");
        Check.same("19 removeCard", 0, x.removeCard(0));
        Check.same("19 cardCount", 0, x.cardCount());
        Check.throwsIndex("19 no card", () -> x.removeCard(0));
        Check.throwsIndex("20 no card", () -> x.copyCard(0));
        Check.same("27 run", 0, x.run(1));
        Check.same("28 finish", 0, x.finish());
    }

    /** As many cards as there may be, removed one by one from each end. */
    private static void removeOfAFullDeck() {
        Tabulator front = Check.machine("field v 1 1;" + "card 1;".repeat(39) + "card 2;");
        Tabulator back = Check.machine("field v 1 1;card 2;" + "card 1;".repeat(39));
        for (int cards = 39; cards >= 1; cards--) {
            Check.same("19 removeCard(0)", cards, front.removeCard(0));
            Check.same("19 the last card", 2L, front.fieldValue(cards - 1, 0));
            Check.same("19 removeCard of the last one", cards, back.removeCard(cards));
            Check.same("19 the first card", 2L, back.fieldValue(0, 0));
        }
    }

    // Promise 20

    /** "Inserts a copy of a card directly behind it.": behind the first, a middle, the last one */
    private static void copyFirstAndLast() {
        String[] due = {"1a 1a 2b 3x", "1a 2b 2b 3x", "1a 2b 3x 3x"};
        for (int card = 0; card < 3; card++) {
            Tabulator x = Check.machine("card 1a;card 2b;card 3x;");
            Check.same("20 copyCard(" + card + ")", 4, x.copyCard(card));
            Check.same("20 deck", due[card], Check.deck(x));
            x.setColumn(card, 1, 9);
            Check.same("20 the copy stays as it is", due[card].charAt(3 * card) - '0', x.column(card + 1, 1));
        }
        Tabulator whole = Check.machine("card 0123456789.xabcdefgj;");
        Check.same("20 the only card", 2, whole.copyCard(0));
        Check.same("20 deck", "0123456789.xabcdefgj 0123456789.xabcdefgj", Check.deck(whole));
    }

    /** "Throws IllegalStateException if there are 40 cards" */
    private static void copyToAFullDeck() {
        for (int card : new int[] {0, 20, 37}) {
            Tabulator x = Check.machine("field v 1 1;" + "card 1;".repeat(38));
            Check.same("20 with 38 cards", 39, x.copyCard(card));
            Check.same("20 with 39 cards", 40, x.copyCard(card));
            Check.throwsState("20 with 40 cards", () -> x.copyCard(card));
            Check.throwsState("20 with 40 cards", () -> x.copyCard(39));
            Check.same("20 cardCount", 40, x.cardCount());
            Check.same("20 the last card", 1L, x.fieldValue(39, 0));
            Check.same("27 run", 40, x.run(40));
        }
        Tabulator loaded = Check.machine("card 1;".repeat(40));
        Check.throwsState("20 40 cards of the text", () -> loaded.copyCard(0));
    }

    private static void copyBehindARemoval() {
        Tabulator x = Check.machine("field v 1 1;" + "card 1;".repeat(39) + "card 2;");
        x.removeCard(0);
        Check.same("20 with 39 cards again", 40, x.copyCard(38));
        Check.same("20 the copy", 2L, x.fieldValue(39, 0));
        Check.throwsState("20 with 40 cards again", () -> x.copyCard(0));
    }

    // Promise 21

    private static boolean isCode(int code) {
        return code >= -1 && code <= 9 || code >= 99 && code <= 109;
    }

    /** "code: -1 to 9 ... 99 to 109", "Returns the previous code of the column." */
    private static void allCodes() {
        Tabulator x = Check.machine("card 5;");
        int previous = 5;
        for (int code = -5; code <= 115; code++) {
            int punched = code;
            if (isCode(code)) {
                Check.same("21 setColumn to " + code, previous, x.setColumn(0, 1, code));
                previous = code;
            } else {
                Check.throwsArgument("21 setColumn to " + code, () -> x.setColumn(0, 1, punched));
            }
            Check.same("7 column", previous, x.column(0, 1));
        }
        for (int code : new int[] {Integer.MIN_VALUE, -101, -100, 199, 209, Integer.MAX_VALUE}) {
            Check.throwsArgument("21 setColumn to " + code, () -> x.setColumn(0, 1, code));
        }
    }

    /** "column: 1 to 20" */
    private static void firstAndLastColumns() {
        Tabulator x = Check.machine("card 11111111111111111111;".repeat(3));
        Check.same("21 first column", 1, x.setColumn(1, 1, 2));
        Check.same("21 last column", 1, x.setColumn(1, 20, 103));
        Check.same("21 deck", "11111111111111111111 2111111111111111111d 11111111111111111111", Check.deck(x));
        Check.same("21 first card", 1, x.setColumn(0, 20, 4));
        Check.same("21 last card", 1, x.setColumn(2, 1, -1));
        Check.same("21 deck", "11111111111111111114 2111111111111111111d .1111111111111111111", Check.deck(x));
    }

    /** "-1 for none", "99 for none": such columns count 0, and the X punch decides the sign */
    private static void codesDecideValues() {
        Tabulator x = Check.machine("field v 1 2;selector s 2 10;selector t 2 3;counter c 3 v signed;card 12;");
        int[] codes = {-1, 0, 9, 99, 100, 103, 109};
        long[] values = {10, 10, 19, -10, -10, -13, -19};
        boolean[] hasX = {false, false, false, true, true, true, true};
        for (int i = 0; i < codes.length; i++) {
            x.setColumn(0, 2, codes[i]);
            x.run(1);
            Check.same("8 fieldValue with " + codes[i], values[i], x.fieldValue(0, 0));
            Check.same("30 counter with " + codes[i], (int) values[i], x.counter(0));
            Check.same("32 X punch with " + codes[i], hasX[i], x.isSelected(0));
            Check.same("32 punch 3 with " + codes[i], codes[i] == 103, x.isSelected(1));
        }
    }

    // Promises 22 to 24

    /** "mode: 0 add, 1 sub, 2 signed" */
    private static void modes() {
        Tabulator x = Check.machine("field v 1 2;counter c 3 v add;card 1b;");
        int[] sums = {11, -11, -11};
        for (int mode = 0; mode <= 2; mode++) {
            Check.same("22 plugCounter", 0, x.plugCounter(0, 0, mode));
            x.run(1);
            Check.same("22 mode " + mode, sums[mode], x.counter(0));
        }
        x.setColumn(0, 2, 1);
        x.run(1);
        Check.same("22 signed without an X punch", 11, x.counter(0));
        for (int mode : new int[] {-1, 3}) {
            Check.throwsArgument("22 mode " + mode, () -> x.plugCounter(0, 0, mode));
        }
    }

    /** "counter", "field": the last ones that there may be */
    private static void lastCountersAndFields() {
        Tabulator x = Check.machine(MANY + "card 12345678;");
        Check.same("22 the last counter and the last field", 5, x.plugCounter(5, 7, 0));
        Check.same("22 the last counter and the first field", 7, x.plugCounter(5, 0, 0));
        Check.same("22 the first counter and the last field", 0, x.plugCounter(0, 7, 0));
        x.run(1);
        Check.same("30 counter 5", 1, x.counter(5));
        Check.same("30 counter 0", 8, x.counter(0));
        Check.same("30 counter 4", 5, x.counter(4));
        Check.throwsIndex("22 counter 6", () -> x.plugCounter(6, 0, 0));
        Check.throwsIndex("22 field 8", () -> x.plugCounter(0, 8, 0));
    }

    /** "selector: number of the selector", "false for if, true for unless" */
    private static void selectorsOfCounters() {
        Tabulator x = Check.machine(MANY + "card a2345f78;");
        Check.same("23 the last counter and the last selector", -1, x.plugSelector(5, 5, false));
        Check.same("23 the first counter and the last selector", -1, x.plugSelector(0, 5, true));
        Check.same("23 the first selector", -1, x.plugSelector(1, 0, false));
        Check.same("23 the first selector", -1, x.plugSelector(2, 0, true));
        Check.same("23 a selector that is off", -1, x.plugSelector(3, 1, false));
        Check.same("23 a selector that is off", -1, x.plugSelector(4, 1, true));
        x.run(1);
        int[] sums = {0, 2, 0, 0, 5, 5};
        for (int counter = 0; counter < 6; counter++) {
            Check.same("30 counter " + counter, sums[counter], x.counter(counter));
        }
        Check.same("23 the previous selector", 5, x.plugSelector(5, 0, false));
        Check.same("23 the previous selector", 0, x.plugSelector(5, -1, false));
        Check.same("23 none", -1, x.plugSelector(5, -1, false));
        Check.throwsIndex("23 selector 6", () -> x.plugSelector(0, 6, false));
        Check.throwsIndex("23 selector -2", () -> x.plugSelector(0, -2, false));
        Check.throwsIndex("23 counter 6", () -> x.plugSelector(6, 0, false));
    }

    /** "NONE for no selector", "(not used without a selector)" */
    private static void noSelector() {
        Tabulator x = Check.machine("field v 1 1;selector s 2 10;counter c 3 v add if s;counter d 3 v add unless s;card 3;card 3x;");
        for (boolean unless : new boolean[] {false, true}) {
            Check.same("23 plugSelector", unless ? -1 : 0, x.plugSelector(0, Tabulator.NONE, unless));
            Check.same("23 plugSelector", unless ? -1 : 0, x.plugSelector(1, Tabulator.NONE, unless));
            x.run(1);
            Check.same("30 counter 0", 3, x.counter(0));
            Check.same("30 counter 1", 3, x.counter(1));
            x.run(1);
            Check.same("30 counter 0", 6, x.counter(0));
            Check.same("30 counter 1", 6, x.counter(1));
        }
    }

    /** "level: 1 to 3", "field: number of the field" */
    private static void controls() {
        Tabulator x = Check.machine(MANY + "card 1;card 1......8;");
        for (int level = 1; level <= 3; level++) {
            Check.same("24 the last field", -1, x.plugControl(level, 7));
            Check.same("9 breakLevel", level, x.breakLevel(1));
            Check.same("24 the first field", 7, x.plugControl(level, 0));
            Check.same("9 breakLevel", 0, x.breakLevel(1));
            Check.throwsIndex("24 field 8", () -> x.plugControl(1, 8));
        }
        Check.throwsArgument("24 level 0", () -> x.plugControl(0, 7));
        Check.throwsArgument("24 level 4", () -> x.plugControl(4, 7));
        Check.same("9 breakLevel", 0, x.breakLevel(1));
    }

    /** "NONE for no control at this level", "NONE if there was none" */
    private static void noControl() {
        for (int level = 1; level <= 3; level++) {
            Tabulator x = Check.machine("field v 1 1;control " + level + " v;card 1;card 2;");
            for (int other = 1; other <= 3; other++) {
                Check.same("24 previous control of " + other, other == level ? 0 : -1, x.plugControl(other, Tabulator.NONE));
                Check.same("24 none of " + other, -1, x.plugControl(other, Tabulator.NONE));
            }
            Check.same("9 breakLevel", 0, x.breakLevel(1));
            Check.same("10 groupCount", 1, x.groupCount(level));
        }
        Check.same("24 without fields", -1, new Tabulator().plugControl(3, Tabulator.NONE));
        Check.throwsIndex("24 without fields", () -> new Tabulator().plugControl(3, 0));
    }

    // Promise 25

    /** A finished machine with so many cards, which has punched as many summary cards, and some more at level 2. */
    private static Tabulator punched(int cards, boolean more) {
        StringBuilder text = new StringBuilder("field v 1 1;field n 2 3;control 1 v;punch 1 n 1;" + (more ? "punch 2 v 1;" : ""));
        for (int i = 0; i < cards; i++) {
            text.append("card ").append(i % 2).append(10 + i).append("9;");
        }
        Tabulator x = Check.machine(text.toString());
        x.finish();
        return x;
    }

    /** "Throws IllegalStateException if no summary card is kept", "Returns the number of cards then." */
    private static void numbersOfSummaryCards() {
        Check.throwsState("25 new object", () -> new Tabulator().restack());
        Check.throwsState("25 no summary card", () -> punched(0, false).restack());
        Check.throwsState("25 no punch statement", () -> Check.machine("card 1;").restack());
        for (int cards : new int[] {1, 2, 39, 40}) {
            Tabulator x = punched(cards, false);
            Check.same("37 summaryCount", cards, x.summaryCount());
            Check.same("25 restack", cards, x.restack());
            Check.same("6 cardCount", cards, x.cardCount());
            Check.same("25 the last card", "" + (9 + cards), Check.card(x, cards - 1));
            Check.same("25 the first card", "10", Check.card(x, 0));
        }
    }

    /** "Makes the summary cards that are kept the deck.", "At most ... 40 summary cards are kept" */
    private static void summaryCardsThatAreKept() {
        Tabulator x = punched(39, true);
        Check.same("37 summaryCount", 40, x.summaryCount());
        Check.same("25 restack", 40, x.restack());
        Check.same("25 the last card", "0", Check.card(x, 39));
        Tabulator y = punched(40, true);
        Check.same("37 summaryCount", 41, y.summaryCount());
        Check.same("25 restack", 40, y.restack());
        Check.same("25 the last card", "49", Check.card(y, 39));
        Check.throwsState("20 the deck is full", () -> y.copyCard(0));
    }

    /** A machine that is not finished has summary cards too. */
    private static void restackOfAMachineUnderWay() {
        Tabulator x = Check.machine("field v 1 1;field n 2 3;control 1 v;punch 1 n 1;card 1105;card 2115;card 3125;");
        x.run(1);
        Check.throwsState("25 no break yet", () -> x.restack());
        x.run(1);
        Check.same("25 restack behind the first break", 1, x.restack());
        Check.same("25 deck", "10", Check.deck(x));
        Check.same("27 run", 1, x.run(40));
    }

    /** "changes of the deck ...; each of them resets the machine" */
    private static void summaryCardsAreGone() {
        Tabulator x = punched(3, false);
        x.restack();
        Check.same("25 reset", 0, x.processed() + x.lineCount() + x.summaryCount() + x.groups(1) + x.groups(2) + x.groups(3));
        Check.throwsState("25 no summary card any more", () -> x.restack());
        Check.throwsIndex("38 no summary card any more", () -> x.summaryColumn(0, 1));
        Check.same("25 deck", "10 11 12", Check.deck(x));
        x.finish();
        Check.same("25 the plugboard stays", 1, x.restack());
        Check.same("25 deck", "2", Check.deck(x));
    }
}

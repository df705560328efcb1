/**
 * The parts COUNTERS, A CARD CYCLE and A TOTAL CYCLE, and promises 26 to 33: a test for each sentence of the document
 * that names a boundary case. The sentence stands above its test. What is refused is in RefusalTest.
 */
public final class MachineLimitsTest {
    private static final String NINE = "field v 1 9;";

    private MachineLimitsTest() {
    }

    public static void main(String[] args) {
        counters();
        cardCycle();
        totalCycle();
        resets();
        runs();
        finishes();
        answers();
        allCallsOfAnObject();
        Check.ends("MachineLimitsTest");
    }

    private static void counters() {
        zeroAtFirst();
        fullCounters();
        fullNegativeCounters();
        digitsThatAreKept();
        zeroHasNoSign();
        signIsKept();
        oneOverflowEachTime();
        greatestSums();
        nothingAdded();
    }

    private static void cardCycle() {
        noTotalsOfTheFirstCard();
        totalsOfTheBreakLevels();
        levelsAscending();
        allPunches();
        delayedSelectors();
        delayedOnTheFirstCard();
        modesAndSelectors();
        noListStatements();
    }

    private static void totalCycle() {
        rollsInOrder();
        sameCounterTwice();
        rollsOverflow();
        clearsBehindPrintingAndPunching();
        statementsOfEachLevel();
        groupsWithoutStatements();
    }

    private static void resets() {
        resetOfEachState();
        overflowsAndSelectorsAreReset();
    }

    private static void runs() {
        countsInRange();
        decksThatEnd();
        behindTheLastCard();
        finishedMachine();
    }

    private static void finishes() {
        finishOfAnEmptyDeck();
        finishOfOneCard();
        finishBehindEachCard();
        finishWithoutPlugs();
        linesThatFinishReturns();
    }

    private static void answers() {
        processedCards();
        overflowCounts();
        selectorsBeforeTheFirstCard();
        numbersOfGroups();
    }

    private static int power(int width) {
        int power = 1;
        for (int i = 0; i < width; i++) {
            power = power * 10;
        }
        return power;
    }

    private static String nine(int number) {
        String digits = "00000000" + number;
        return digits.substring(digits.length() - 9);
    }

    /** A counter of this width to which the numbers are added, or from which they are taken, one by one. */
    private static Tabulator added(int width, String mode, int... numbers) {
        StringBuilder text = new StringBuilder(NINE + "counter c " + width + " v " + mode + ";total 1 c 1;punch 1 c 1;");
        for (int number : numbers) {
            text.append("card ").append(nine(number)).append(';');
        }
        Tabulator x = Check.machine(text.toString());
        x.run(40);
        return x;
    }

    // COUNTERS

    /** "A counter holds a number with WIDTH digits and a sign, 0 at first." */
    private static void zeroAtFirst() {
        for (int width = 1; width <= 9; width++) {
            Tabulator x = Check.machine(NINE + "counter c " + width + " v add;counter d " + width + " v sub;card 1;");
            Check.same("30 counter", 0, x.counter(0));
            Check.same("30 counter", 0, x.counter(1));
            Check.same("31 overflows", 0, x.overflows(0));
            Check.same("31 overflows", 0, x.overflows(1));
        }
    }

    /** "if the absolute value of the sum had more than WIDTH digits, the counter has overflowed" */
    private static void fullCounters() {
        for (int width = 1; width <= 9; width++) {
            int full = power(width) - 1;
            Tabulator below = added(width, "add", full - 1, 1);
            Check.same("30 full, width " + width, full, below.counter(0));
            Check.same("31 not overflowed, width " + width, 0, below.overflows(0));
            Tabulator above = added(width, "add", full, 1);
            Check.same("30 one more, width " + width, 0, above.counter(0));
            Check.same("31 overflowed, width " + width, 1, above.overflows(0));
            Tabulator two = added(width, "add", full, 2);
            Check.same("30 two more, width " + width, 1, two.counter(0));
            Check.same("31 overflowed, width " + width, 1, two.overflows(0));
        }
    }

    /** The same below 0. */
    private static void fullNegativeCounters() {
        for (int width = 1; width <= 9; width++) {
            int full = power(width) - 1;
            Tabulator below = added(width, "sub", full - 1, 1);
            Check.same("30 full, width " + width, -full, below.counter(0));
            Check.same("31 not overflowed, width " + width, 0, below.overflows(0));
            Tabulator above = added(width, "sub", full, 1);
            Check.same("30 one less, width " + width, 0, above.counter(0));
            Check.same("31 overflowed, width " + width, 1, above.overflows(0));
            Tabulator two = added(width, "sub", full, 2);
            Check.same("30 two less, width " + width, -1, two.counter(0));
            Check.same("31 overflowed, width " + width, 1, two.overflows(0));
        }
    }

    /** "its absolute value is taken modulo 10 to the power of WIDTH" */
    private static void digitsThatAreKept() {
        for (int width = 1; width <= 9; width++) {
            Tabulator plus = added(width, "add", 987654321);
            Check.same("30 width " + width, 987654321 % power(width), plus.counter(0));
            Check.same("31 width " + width, width < 9 ? 1 : 0, plus.overflows(0));
            Tabulator minus = added(width, "sub", 987654321);
            Check.same("30 width " + width, -(987654321 % power(width)), minus.counter(0));
            Tabulator exact = added(width, "add", width < 9 ? power(width) : 0);
            Check.same("30 a 1 and " + width + " zeros", 0, exact.counter(0));
            Check.same("31 a 1 and " + width + " zeros", width < 9 ? 1 : 0, exact.overflows(0));
        }
    }

    /** "(0 has no sign)" */
    private static void zeroHasNoSign() {
        for (int width = 1; width <= 8; width++) {
            Tabulator x = added(width, "sub", power(width));
            Check.same("30 width " + width, 0, x.counter(0));
            x.finish();
            Check.same("35 no minus, width " + width, Check.row(width, "0", 40, "*"), Check.line(x, 0));
            Check.same("38 no X punch, width " + width, "0".repeat(width), Check.summary(x, 0));
        }
        Tabulator back = Check.machine("field v 1 1;counter c 1 v signed;total 1 c 1;punch 1 c 1;card d;card 3;");
        back.finish();
        Check.same("35 back to 0 from below", Check.row(1, "0", 40, "*"), Check.line(back, 0));
        Check.same("38 back to 0 from below", "0", Check.summary(back, 0));
    }

    /** "and its sign is kept" */
    private static void signIsKept() {
        Tabulator x = Check.machine("field v 1 2;counter c 1 v signed;card 0j;card 0b;card 1c;card 05;card 15;");
        int[] numbers = {-9, 0, -2, 3, 8};
        int[] overflows = {0, 1, 2, 2, 3};
        for (int card = 0; card < numbers.length; card++) {
            x.run(1);
            Check.same("30 counter behind card " + card, numbers[card], x.counter(0));
            Check.same("31 overflows behind card " + card, overflows[card], x.overflows(0));
        }
    }

    /** "the number of its overflows increases by 1": however great the sum is */
    private static void oneOverflowEachTime() {
        Tabulator x = added(1, "add", 999999999, 999999999, 10, 9, 1);
        Check.same("30 counter", 8, x.counter(0));
        Check.same("31 overflows", 4, x.overflows(0));
        Tabulator y = Check.machine(NINE + "counter c 1 v sub;" + "card 999999991;".repeat(40));
        y.run(40);
        Check.same("30 counter", 0, y.counter(0));
        Check.same("31 overflows", 40, y.overflows(0));
    }

    /** "the sum is computed": of two numbers of nine digits */
    private static void greatestSums() {
        Tabulator plus = added(9, "add", 999999999, 999999999);
        Check.same("30 counter", 999999998, plus.counter(0));
        Check.same("31 overflows", 1, plus.overflows(0));
        Tabulator minus = added(9, "sub", 999999999, 999999999);
        Check.same("30 counter", -999999998, minus.counter(0));
        Check.same("31 overflows", 1, minus.overflows(0));
        Tabulator rolled = Check.machine(NINE + "counter c 9 v add;counter d 9 v sub;roll 1 c c;roll 2 d d;roll 3 d c;card 999999999;");
        rolled.finish();
        Check.same("30 c is doubled, and d is added", 0, rolled.counter(0));
        Check.same("31 c", 1, rolled.overflows(0));
        Check.same("30 d is doubled", -999999998, rolled.counter(1));
        Check.same("31 d", 1, rolled.overflows(1));
    }

    /** 0 added to a full counter is no overflow. */
    private static void nothingAdded() {
        for (int width = 1; width <= 9; width++) {
            Tabulator x = added(width, "add", power(width) - 1, 0, 0);
            Check.same("30 counter", power(width) - 1, x.counter(0));
            Check.same("31 overflows", 0, x.overflows(0));
        }
    }

    // A CARD CYCLE

    /** "If it is not the first card since the machine was reset" */
    private static void noTotalsOfTheFirstCard() {
        Tabulator x = Check.machine("field v 1 1;counter c 1 v add;control 1 v;control 2 v;control 3 v;total 1 c 1;punch 1 c 1;card 9;card 8;");
        for (int times = 0; times < 3; times++) {
            x.run(1);
            Check.same("33 groups", 0, x.groups(1) + x.groups(2) + x.groups(3));
            Check.same("34 lineCount", 0, x.lineCount());
            Check.same("37 summaryCount", 0, x.summaryCount());
            if (times == 0) {
                x.run(1);
                Check.same("33 groups", 3, x.groups(1) + x.groups(2) + x.groups(3));
            }
            x.reset();
        }
    }

    /** "If it is above 0, total cycles are made for the levels 1 to the break level" */
    private static void totalsOfTheBreakLevels() {
        String[] seconds = {"111", "211", "121", "112", "221", "122", "222"};
        int[] levels = {0, 1, 2, 3, 2, 3, 3};
        for (int i = 0; i < seconds.length; i++) {
            Tabulator x = Check.machine("field a 1 1;field b 2 2;field c 3 3;control 1 a;control 2 b;control 3 c;card 111;card " + seconds[i] + ";");
            x.run(2);
            for (int level = 1; level <= 3; level++) {
                Check.same("33 groups of level " + level + " behind " + seconds[i], level <= levels[i] ? 1 : 0, x.groups(level));
            }
        }
    }

    /** "in ascending order" */
    private static void levelsAscending() {
        Tabulator x = Check.machine("field v 1 1;counter a 3 v add;counter b 3 v sub;counter c 3 v sub;counter d 3 v sub;control 3 v;"
            + "roll 3 c d;roll 2 b c;roll 1 a b;total 3 d 1;total 1 b 1;total 2 c 1;card 5;card 6;");
        x.run(2);
        Check.same("33 groups", 3, x.groups(1) + x.groups(2) + x.groups(3));
        Check.same("35 b is -5 + 5", Check.row(3, "0", 40, "*"), Check.line(x, 0));
        Check.same("35 c is -5 + 0", Check.row(3, "5-", 39, "**"), Check.line(x, 1));
        Check.same("35 d is -5 - 5", Check.row(2, "10-", 38, "***"), Check.line(x, 2));
    }

    /** "the digit PUNCH, with or without an X punch; for 10 an X punch, with or without a digit" */
    private static void allPunches() {
        String signs = "0123456789abcdefghijx.";
        for (int first = 0; first <= 10; first += 5) {
            StringBuilder text = new StringBuilder();
            for (int i = 0; i < 6 && first + i <= 10; i++) {
                text.append("selector ").append("opqrst".charAt(i)).append(i % 2 == 0 ? " 1 " : " 20 ").append(first + i).append(';');
            }
            for (char sign : signs.toCharArray()) {
                text.append("card ").append(sign).append("..................").append(sign).append(';');
            }
            Tabulator x = Check.machine(text.toString());
            for (char sign : signs.toCharArray()) {
                x.run(1);
                for (int i = 0; i < 6 && first + i <= 10; i++) {
                    int punch = first + i;
                    int place = signs.indexOf(sign);
                    boolean on = punch == 10 ? place >= 10 && place <= 20 : place == punch || place == punch + 10 && place < 20;
                    Check.same("32 punch " + punch + " of " + sign, on, x.isSelected(i));
                }
            }
        }
    }

    /** "A delayed selector is on if that holds for the card before" */
    private static void delayedSelectors() {
        String signs = "xx.a1..1bx";
        StringBuilder text = new StringBuilder("selector s 1 10 delayed;selector t 1 1 delayed;selector u 1 10;field v 2 2;counter c 2 v add if s;");
        for (char sign : signs.toCharArray()) {
            text.append("card ").append(sign).append("1;");
        }
        Tabulator x = Check.machine(text.toString());
        int sum = 0;
        for (int card = 0; card < signs.length(); card++) {
            x.run(1);
            boolean xBefore = card > 0 && "xab".indexOf(signs.charAt(card - 1)) >= 0;
            boolean oneBefore = card > 0 && "1b".indexOf(signs.charAt(card - 1)) >= 0;
            sum += xBefore ? 1 : 0;
            Check.same("32 delayed X on " + card, xBefore, x.isSelected(0));
            Check.same("32 delayed 1 on " + card, oneBefore, x.isSelected(1));
            Check.same("32 X on " + card, "xab".indexOf(signs.charAt(card)) >= 0, x.isSelected(2));
            Check.same("30 counter on " + card, sum, x.counter(0));
        }
    }

    /** "it is off on the first card" */
    private static void delayedOnTheFirstCard() {
        Tabulator x = Check.machine("selector s 1 10 delayed;selector t 1 1 delayed;field v 2 2;counter c 2 v add if s;counter d 2 v add unless s;"
            + "card b3;card b4;");
        for (int times = 0; times < 3; times++) {
            x.run(1);
            Check.same("32 first card", false, x.isSelected(0) || x.isSelected(1));
            Check.same("30 if", 0, x.counter(0));
            Check.same("30 unless", 3, x.counter(1));
            x.run(1);
            Check.same("32 second card", true, x.isSelected(0) && x.isSelected(1));
            Check.same("30 if", 4, x.counter(0));
            Check.same("30 unless", 3, x.counter(1));
            if (times == 0) {
                x.finish();
            }
            x.reset();
        }
    }

    /** "Each counter without a selector, with if and a selector that is on, or with unless and a selector that is off" */
    private static void modesAndSelectors() {
        String[] modes = {"add", "sub", "signed"};
        String[] conditions = {"", " if s", " unless s"};
        for (int mode = 0; mode < 3; mode++) {
            for (int condition = 0; condition < 3; condition++) {
                String text = "field v 1 1;selector s 2 5;counter c 2 v " + modes[mode] + conditions[condition] + ";";
                for (String card : new String[] {"35", "3.", "d5", "d."}) {
                    Tabulator x = Check.machine(text + "card " + card + ";");
                    x.run(1);
                    boolean on = card.endsWith("5");
                    boolean adds = condition == 0 || on == (condition == 1);
                    int amount = mode == 0 || mode == 2 && card.startsWith("3") ? 3 : -3;
                    Check.same("30 " + modes[mode] + conditions[condition] + " on " + card, adds ? amount : 0, x.counter(0));
                }
            }
        }
    }

    /** "If there are list statements, a detail line is printed" */
    private static void noListStatements() {
        Tabulator none = Check.machine("field v 1 1;counter c 1 v add;card 1;card 2;");
        none.run(2);
        Check.same("34 no list statement", 0, none.lineCount());
        Tabulator one = Check.machine("field v 1 1;list v 40;card .;card x;card 3;");
        one.run(3);
        Check.same("34 a line for each card, also of blanks", 3, one.lineCount());
        Check.same("35 other columns as blanks", "", Check.line(one, 0) + Check.line(one, 1));
        Check.same("35 digit", Check.row(40, "3"), Check.line(one, 2));
    }

    // A TOTAL CYCLE

    /** "Each roll statement of the level, in order" */
    private static void rollsInOrder() {
        Tabulator x = Check.machine("field v 1 1;counter a 3 v add;counter b 3 v add;roll 1 a b;roll 1 b a;roll 2 b a;roll 2 a b;card 1;");
        x.finish();
        // a, b: 1, 1; 1, 2; 3, 2; 5, 2; 5, 7
        Check.same("30 a", 5, x.counter(0));
        Check.same("30 b", 7, x.counter(1));
    }

    /** "(The same counter may be named twice.)" */
    private static void sameCounterTwice() {
        Tabulator x = Check.machine("field v 1 1;counter a 3 v sub;roll 1 a a;roll 2 a a;roll 3 a a;card 3;");
        x.finish();
        Check.same("30 doubled three times", -24, x.counter(0));
        Check.same("31 no overflow", 0, x.overflows(0));
    }

    /** "To add an amount to a counter": a roll overflows as an adding does, by the width of the second counter */
    private static void rollsOverflow() {
        Tabulator x = Check.machine("field v 1 2;counter a 2 v add;counter b 1 v sub;counter c 2 v add;roll 1 a a;roll 2 c b;roll 3 b a;card 55;");
        x.finish();
        // a = 55, 10; b = -5, 50, of which 0 is kept; a = 10 + 0
        Check.same("30 a", 10, x.counter(0));
        Check.same("31 a", 1, x.overflows(0));
        Check.same("30 b", 0, x.counter(1));
        Check.same("31 b", 2, x.overflows(1));
        Check.same("31 c is only read", 0, x.overflows(2));
        Check.same("30 c is only read", 55, x.counter(2));
    }

    /** "(d) Each clear statement of the level, in order: the counter becomes 0." */
    private static void clearsBehindPrintingAndPunching() {
        for (int level = 1; level <= 3; level++) {
            Tabulator x = Check.machine("field v 1 1;counter a 2 v add;clear " + level + " a;total " + level + " a 1;punch " + level + " a 1;card 7;");
            x.finish();
            Check.same("35 the number before", Check.row(2, "7", 41 - level, "***".substring(0, level)), Check.line(x, 0));
            Check.same("38 the number before", "07", Check.summary(x, 0));
            Check.same("30 cleared", 0, x.counter(0));
            Check.same("31 clearing is no overflow", 0, x.overflows(0));
        }
        Tabulator overflowed = Check.machine("field v 1 2;counter a 1 v add;clear 1 a;card 77;");
        overflowed.finish();
        Check.same("31 clearing leaves the overflows", 1, overflowed.overflows(0));
    }

    /** "If there are total statements of the level", "If there are punch statements of the level" */
    private static void statementsOfEachLevel() {
        for (int level = 1; level <= 3; level++) {
            Tabulator x = Check.machine("field v 1 1;counter a 1 v add;total " + level + " a 1;punch " + (4 - level) + " v 1;card 7;");
            Check.same("28 finish", 1, x.finish());
            Check.same("36 lineLevel", level, x.lineLevel(0));
            Check.same("37 summaryCount", 1, x.summaryCount());
        }
        Tabulator none = Check.machine("field v 1 1;counter a 1 v add;roll 1 a a;clear 3 a;card 7;");
        Check.same("28 no total statement", 0, none.finish());
        Check.same("37 no punch statement", 0, none.summaryCount());
        Tabulator all = Check.machine("field v 1 1;counter a 1 v add;total 1 a 1;total 2 a 1;total 3 a 1;punch 1 a 1;punch 2 a 1;punch 3 a 1;card 7;");
        Check.same("28 a line of each level", 3, all.finish());
        Check.same("37 a summary card of each level", 3, all.summaryCount());
    }

    /** "(e) The number of groups of the level increases by 1." */
    private static void groupsWithoutStatements() {
        Tabulator x = Check.machine("field v 1 1;control 2 v;card 1;card 2;card 2;card 3;");
        x.run(4);
        Check.same("33 level 1", 2, x.groups(1));
        Check.same("33 level 2", 2, x.groups(2));
        Check.same("33 level 3", 0, x.groups(3));
        x.finish();
        Check.same("33 level 1", 3, x.groups(1));
        Check.same("33 level 2", 3, x.groups(2));
        Check.same("33 level 3", 1, x.groups(3));
    }

    // Promise 26

    /** "the first card of the deck is the next one, all counters and overflows are 0, all selectors are off, no lines ..., no groups" */
    private static void resetOfEachState() {
        String due = Picture.machine(Picture.underWay(0));
        for (int cards = 0; cards <= 5; cards++) {
            Tabulator x = cards == 5 ? Picture.finished() : Picture.underWay(cards);
            x.reset();
            Check.same("26 reset behind " + cards + " cards", due, Picture.machine(x));
            Tabulator y = cards == 5 ? Picture.finished() : Picture.underWay(cards);
            y.reset();
            Check.same("26 the run behind it", Picture.rest(Picture.underWay(0)), Picture.rest(y));
            Tabulator z = cards == 5 ? Picture.finished() : Picture.underWay(cards);
            z.reset();
            Check.same("26 the plugboard stays", Picture.plugs(Picture.underWay(0)), Picture.plugs(z));
        }
        Tabulator empty = new Tabulator();
        empty.reset();
        Check.same("26 reset of a new object", Picture.machine(new Tabulator()), Picture.machine(empty));
    }

    /** "all counters and overflows are 0, all selectors are off": the last ones too */
    private static void overflowsAndSelectorsAreReset() {
        StringBuilder text = new StringBuilder("field v 1 2;");
        for (int i = 0; i < 6; i++) {
            text.append("selector s").append((char) ('a' + i)).append(" 1 9;counter c").append((char) ('a' + i)).append(" 1 v add;");
        }
        Tabulator x = Check.machine(text + "card 99;card 99;");
        x.run(2);
        for (int i = 0; i < 6; i++) {
            Check.same("30 counter", 8, x.counter(i));
            Check.same("31 overflows", 2, x.overflows(i));
            Check.same("32 selector", true, x.isSelected(i));
        }
        x.reset();
        for (int i = 0; i < 6; i++) {
            Check.same("26 counter", 0, x.counter(i));
            Check.same("26 overflows", 0, x.overflows(i));
            Check.same("26 selector", false, x.isSelected(i));
        }
    }

    // Promise 27

    private static Tabulator deckOf(int cards) {
        return Check.machine("field v 1 1;counter c 2 v add;" + "card 1;".repeat(cards));
    }

    /** "count: 1 to 40" */
    private static void countsInRange() {
        for (int count : new int[] {1, 2, 39, 40}) {
            Tabulator x = deckOf(40);
            Check.same("27 run(" + count + ")", count, x.run(count));
            Check.same("29 processed", count, x.processed());
            Check.same("30 counter", count, x.counter(0));
        }
        for (int count : new int[] {Integer.MIN_VALUE, -1, 0, 41, 42, Integer.MAX_VALUE}) {
            Check.throwsArgument("27 run(" + count + ")", () -> deckOf(40).run(count));
            Check.throwsArgument("27 run(" + count + ") of an empty deck", () -> deckOf(0).run(count));
        }
    }

    /** "count, or fewer if the deck ends before" */
    private static void decksThatEnd() {
        for (int cards : new int[] {0, 1, 2, 39, 40}) {
            for (int count : new int[] {1, 2, 39, 40}) {
                Tabulator x = deckOf(cards);
                Check.same("27 run(" + count + ") of " + cards, Math.min(count, cards), x.run(count));
                Check.same("27 the rest", cards - Math.min(count, cards), x.run(40));
                Check.same("29 processed", cards, x.processed());
                Check.same("30 counter", cards, x.counter(0));
            }
        }
    }

    /** A machine that has processed all cards is not finished: there are no final totals, and no card more. */
    private static void behindTheLastCard() {
        Tabulator x = Check.machine("field v 1 1;counter c 2 v add;list v 1;total 1 c 1;card 1;card 2;");
        x.run(2);
        for (int i = 0; i < 3; i++) {
            Check.same("27 run", 0, x.run(40));
        }
        Check.same("29 processed", 2, x.processed());
        Check.same("34 lineCount", 2, x.lineCount());
        Check.same("30 counter", 3, x.counter(0));
        Check.same("33 groups", 0, x.groups(1));
        Check.same("28 finish", 3, x.finish());
    }

    /** "Throws IllegalStateException if the machine is finished" */
    private static void finishedMachine() {
        for (int cards : new int[] {0, 1, 40}) {
            Tabulator x = deckOf(cards);
            x.finish();
            for (int count : new int[] {1, 40}) {
                Check.throwsState("27 run", () -> x.run(count));
            }
            Check.throwsState("28 finish", () -> x.finish());
            Check.throwsArgument("27 the range is checked before", () -> x.run(0));
            Check.throwsArgument("27 the range is checked before", () -> x.run(41));
            x.reset();
            Check.same("27 run behind a reset", Math.min(cards, 1), x.run(1));
        }
    }

    // Promise 28

    /** "if at least one card has been processed since the machine was reset" */
    private static void finishOfAnEmptyDeck() {
        Tabulator x = Check.machine("field v 1 1;counter c 1 v add;list v 1;total 1 c 1;total 2 c 1;total 3 c 1;punch 1 c 1;punch 3 v 1;roll 1 c c;");
        Check.same("28 finish", 0, x.finish());
        Check.same("33 groups", 0, x.groups(1) + x.groups(2) + x.groups(3));
        Check.same("34 lineCount", 0, x.lineCount());
        Check.same("37 summaryCount", 0, x.summaryCount());
        Check.throwsState("28 finished", () -> x.finish());
        Check.throwsState("25 no summary card", () -> x.restack());
        x.reset();
        Check.same("28 finish behind a reset", 0, x.finish());
    }

    /** "it makes the final total cycles of the levels 1 to 3" */
    private static void finishOfOneCard() {
        Tabulator x = Check.machine("field v 1 1;counter c 1 v add;list v 1;total 1 c 1;total 2 c 1;total 3 c 1;punch 1 c 1;punch 2 c 1;punch 3 v 1;card 5;");
        Check.same("28 finish", 4, x.finish());
        for (int level = 1; level <= 3; level++) {
            Check.same("33 groups", 1, x.groups(level));
            Check.same("36 lineLevel", level, x.lineLevel(level));
        }
        Check.same("37 summaryCount", 3, x.summaryCount());
    }

    /** "Processes all remaining cards.": all, some, none */
    private static void finishBehindEachCard() {
        String due = Picture.rest(Picture.underWay(0));
        for (int cards = 1; cards <= 4; cards++) {
            Check.same("28 finish behind " + cards + " cards", due, Picture.rest(Picture.underWay(cards)));
        }
        Tabulator x = deckOf(40);
        x.finish();
        Check.same("29 processed", 40, x.processed());
        Check.same("30 counter", 40, x.counter(0));
    }

    /** A machine with an empty plugboard runs, and makes total cycles that print nothing. */
    private static void finishWithoutPlugs() {
        Tabulator x = Check.machine("card 1;card 2;");
        Check.same("28 finish", 0, x.finish());
        Check.same("29 processed", 2, x.processed());
        Check.same("33 groups", 3, x.groups(1) + x.groups(2) + x.groups(3));
        Check.same("37 summaryCount", 0, x.summaryCount());
    }

    /** "Returns the number of lines printed since the machine was reset.", those before the call and those that are not kept among them */
    private static void linesThatFinishReturns() {
        Tabulator x = Check.machine("field v 1 1;counter c 2 v add;list v 1;total 1 c 1;total 2 c 1;total 3 c 1;control 3 v;" + "card 1;card 2;".repeat(20));
        x.run(30);
        Check.same("34 lineCount", 117, x.lineCount());
        Check.same("28 finish", 160, x.finish());
        Tabulator none = deckOf(40);
        Check.same("28 no lines", 0, none.finish());
    }

    // Promises 29 to 33

    /** "the number of cards processed since the machine was reset" */
    private static void processedCards() {
        Tabulator x = deckOf(40);
        Check.same("29 before the first card", 0, x.processed());
        for (int card = 1; card <= 40; card++) {
            x.run(1);
            Check.same("29 processed", card, x.processed());
        }
        x.run(1);
        Check.same("29 behind the last card", 40, x.processed());
        x.finish();
        Check.same("29 finished", 40, x.processed());
        x.reset();
        Check.same("29 reset", 0, x.processed());
    }

    /** "Returns how often a counter has overflowed." */
    private static void overflowCounts() {
        Tabulator x = Check.machine("field v 1 2;counter c 1 v add;counter d 2 v add;roll 1 d c;roll 1 d d;" + "card 10;".repeat(20));
        for (int card = 1; card <= 20; card++) {
            x.run(1);
            Check.same("31 width 1", card, x.overflows(0));
            Check.same("31 width 2", card / 10, x.overflows(1));
        }
        x.finish();
        // d is 0: its rolls add nothing
        Check.same("31 width 1", 20, x.overflows(0));
        Check.same("31 width 2", 2, x.overflows(1));
    }

    /** "false also if no card has been processed" */
    private static void selectorsBeforeTheFirstCard() {
        Tabulator x = Check.machine("selector s 1 10;selector t 2 0 delayed;card x0;card .0;");
        Check.same("32 new", false, x.isSelected(0) || x.isSelected(1));
        x.run(1);
        Check.same("32 first card", true, x.isSelected(0));
        Check.same("32 first card, delayed", false, x.isSelected(1));
        x.run(1);
        Check.same("32 second card", false, x.isSelected(0));
        Check.same("32 second card, delayed", true, x.isSelected(1));
        x.finish();
        Check.same("32 behind the final totals", true, x.isSelected(1));
        x.reset();
        Check.same("32 reset", false, x.isSelected(0) || x.isSelected(1));
        Tabulator none = Check.machine("selector s 1 10;");
        none.finish();
        Check.same("32 no cards", false, none.isSelected(0));
    }

    /** "Returns the number of total cycles of a level since the machine was reset.", "level: 1 to 3" */
    private static void numbersOfGroups() {
        Tabulator x = Check.machine("field v 1 1;control 3 v;" + "card 1;card 2;".repeat(20));
        x.run(40);
        for (int level = 1; level <= 3; level++) {
            Check.same("33 groups", 39, x.groups(level));
        }
        x.finish();
        for (int level = 1; level <= 3; level++) {
            Check.same("33 groups", 40, x.groups(level));
            Check.same("33 as many as the deck has", x.groupCount(level), x.groups(level));
        }
        x.reset();
        Check.same("33 reset", 0, x.groups(1) + x.groups(2) + x.groups(3));
        for (int level : new int[] {Integer.MIN_VALUE, -1, 0, 4, Integer.MAX_VALUE}) {
            Check.throwsArgument("33 groups(" + level + ")", () -> x.groups(level));
        }
    }

    // "An object is used for at most 512 calls after it has been made"

    /** The calls up to the last one are answered like the first ones: texts, runs, saved machines, trials. */
    private static void allCallsOfAnObject() {
        Tabulator texts = new Tabulator();
        for (int i = 0; i < 256; i++) {
            // the first 15 bytes of "card 1 ;card 2;card3" are a legal text, all 20 are none
            Check.same("2 feed", 20, texts.feed(0x63617264, 0x2031203b, 0x63617264, 0x20323b63, 0x61726433));
            Check.same("3 load", i % 2 == 0 ? 2 : -3, texts.load(i % 2 == 0 ? 15 : 20));
        }
        Tabulator runs = new Tabulator();
        runs.feed(0x63617264, 0x2031203b, 0x63617264, 0x20323b63, 0x61726433);
        runs.load(15);
        for (int i = 0; i < 170; i++) {
            runs.reset();
            Check.same("27 run", 2, runs.run(40));
            Check.same("28 finish", 0, runs.finish());
        }
        Tabulator slots = new Tabulator();
        slots.feed(0x63617264, 0x2031203b, 0x63617264, 0x20323b63, 0x61726433);
        slots.load(15);
        for (int i = 0; i < 170; i++) {
            slots.save(i % 3);
            Check.same("44 restore", 2, slots.restore(i % 3));
            Check.same("41 linesDependingOn", 0, slots.linesDependingOn(1));
        }
    }
}

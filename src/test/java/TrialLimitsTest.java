import java.util.List;
import java.util.function.Consumer;

/**
 * Promises 39 to 42: a test for each sentence of the document that names a boundary case.
 * The sentence stands above its test. What is refused is in RefusalTest.
 */
public final class TrialLimitsTest {
    private static final String NINE = "field v 1 9;";

    private TrialLimitsTest() {
    }

    public static void main(String[] args) {
        trials();
        lines();
        widths();
        dependingLines();
        crossfooting();
        Check.ends("TrialLimitsTest");
    }

    private static void trials() {
        nothingChanges();
        answersOfEachState();
        trialsOfAnEmptyMachine();
    }

    private static void lines() {
        linesOfAnEmptyDeck();
        linesThatAreNotKept();
        linesOfFinish();
    }

    private static void widths() {
        widthsOfSums();
        noWidth();
        widthOfAnEmptyDeck();
        widthOfNegativeSums();
        widthInTheMiddleOfARun();
        widthBehindFinalTotals();
        ownWidthDoesNotMatter();
        otherWidthsStay();
        widthsOfRolledCounters();
        lastCounter();
    }

    private static void dependingLines() {
        theOnlyCard();
        firstAndLastCard();
        noTotalLines();
        sameLevelAndCharacters();
        keptTotalLines();
        detailLinesDoNotCount();
    }

    private static void crossfooting() {
        noErrors();
        errorsOfEachCard();
        sumOfTenDigits();
        afterTheCardCycle();
        sameCounters();
        lastCounters();
    }

    // "runs of a copy of the machine, reset, with finish(); nothing changes"

    private static List<Consumer<Tabulator>> allTrials() {
        return List.of(Tabulator::linesOfRun, x -> x.neededWidth(0), x -> x.neededWidth(1), x -> x.neededWidth(2), x -> x.linesDependingOn(0),
            x -> x.linesDependingOn(3), x -> x.crossfootErrors(0, 1, 2));
    }

    private static Tabulator machine(int cards) {
        return cards == 5 ? Picture.finished() : Picture.underWay(cards);
    }

    /** "nothing changes" */
    private static void nothingChanges() {
        for (int cards = 0; cards <= 5; cards++) {
            String machine = Picture.machine(machine(cards));
            String rest = Picture.rest(machine(cards));
            String plugs = Picture.plugs(machine(cards));
            String run = Picture.wholeRun(machine(cards));
            String text = Picture.text(machine(cards));
            for (Consumer<Tabulator> trial : allTrials()) {
                Check.same("39 to 42, machine behind " + cards + " cards", machine, Picture.machine(tried(cards, trial)));
                Check.same("39 to 42, the rest behind " + cards + " cards", rest, Picture.rest(tried(cards, trial)));
                Check.same("39 to 42, plugs behind " + cards + " cards", plugs, Picture.plugs(tried(cards, trial)));
                Check.same("39 to 42, whole run behind " + cards + " cards", run, Picture.wholeRun(tried(cards, trial)));
                Check.same("39 to 42, text behind " + cards + " cards", text, Picture.text(tried(cards, trial)));
                Tabulator saved = machine(cards);
                saved.save(1);
                saved.reset();
                trial.accept(saved);
                saved.restore(1);
                Check.same("39 to 42, saved behind " + cards + " cards", machine, Picture.machine(saved));
                Check.throwsState("44 nothing is saved elsewhere", () -> saved.restore(0));
            }
        }
    }

    private static Tabulator tried(int cards, Consumer<Tabulator> trial) {
        Tabulator x = machine(cards);
        trial.accept(x);
        return x;
    }

    /** "a copy of the machine, reset": the answers are the same at each time */
    private static void answersOfEachState() {
        String due = answers(machine(0));
        for (int cards = 1; cards <= 5; cards++) {
            Check.same("39 to 42 behind " + cards + " cards", due, answers(machine(cards)));
        }
    }

    private static String answers(Tabulator x) {
        StringBuilder answers = new StringBuilder().append(x.linesOfRun());
        for (int i = 0; i < 3; i++) {
            answers.append(' ').append(x.neededWidth(i)).append(' ').append(x.linesDependingOn(i)).append(' ').append(x.crossfootErrors(i, 1, 2));
        }
        return answers.toString();
    }

    private static void trialsOfAnEmptyMachine() {
        Check.same("39 new object", 0, new Tabulator().linesOfRun());
        Check.throwsIndex("40 new object", () -> new Tabulator().neededWidth(0));
        Check.throwsIndex("41 new object", () -> new Tabulator().linesDependingOn(0));
        Check.throwsIndex("42 new object", () -> new Tabulator().crossfootErrors(0, 0, 0));
        Check.same("39 empty plugboard", 0, Check.machine("card 1;card 2;").linesOfRun());
        Check.same("41 empty plugboard", 0, Check.machine("card 1;card 2;").linesDependingOn(1));
    }

    // Promise 39

    private static void linesOfAnEmptyDeck() {
        Check.same("39 no cards", 0, Check.machine("field v 1 1;counter c 1 v add;list v 1;total 1 c 1;total 2 c 1;total 3 c 1;").linesOfRun());
        Tabulator emptied = Check.machine("field v 1 1;counter c 1 v add;list v 1;total 1 c 1;card 1;");
        Check.same("39 one card", 2, emptied.linesOfRun());
        emptied.removeCard(0);
        Check.same("39 all cards removed", 0, emptied.linesOfRun());
    }

    /** "Returns the number of lines that a whole run would print.": also those that would not be kept */
    private static void linesThatAreNotKept() {
        String plugs = "field v 1 1;counter c 3 v add;control 3 v;list v 40;total 1 c 1;total 2 c 1;total 3 c 1;";
        Check.same("39 forty groups", 160, Check.machine(plugs + "card 1;card 2;".repeat(20)).linesOfRun());
        Check.same("39 thirty groups", 120, Check.machine(plugs + "card 1;card 2;".repeat(15)).linesOfRun());
        Check.same("39 thirty-one groups", 124, Check.machine(plugs + "card 1;card 2;".repeat(15) + "card 1;").linesOfRun());
    }

    /** "with finish()": the final total lines are among them */
    private static void linesOfFinish() {
        for (int level = 1; level <= 3; level++) {
            Check.same("39 level " + level, 1, Check.machine("field v 1 1;counter c 1 v add;total " + level + " c 1;card 1;card 2;").linesOfRun());
        }
    }

    // Promise 40

    private static Tabulator cards(String plugs, String... cards) {
        StringBuilder text = new StringBuilder(NINE + plugs);
        for (String card : cards) {
            text.append("card ").append("0".repeat(9 - card.length())).append(card).append(';');
        }
        return Check.machine(text.toString());
    }

    /** "Returns the smallest WIDTH, 1 to 9, with which the counter would not overflow" */
    private static void widthsOfSums() {
        for (int width = 1; width <= 9; width++) {
            for (String mode : new String[] {"add", "sub"}) {
                String plug = "counter c 4 v " + mode + ";";
                Check.same("40 the greatest number, width " + width, width, cards(plug, "9".repeat(width)).neededWidth(0));
                Check.same("40 the least number, width " + width, width, cards(plug, "1" + "0".repeat(width - 1)).neededWidth(0));
                int more = width < 9 ? width + 1 : -1;
                Check.same("40 one more, width " + width, more, cards(plug, "9".repeat(width), "1").neededWidth(0));
                Check.same("40 nothing more, width " + width, width, cards(plug, "9".repeat(width), "0", "0").neededWidth(0));
            }
        }
    }

    /** "NONE if there is none" */
    private static void noWidth() {
        Check.same("40 ten digits", -1, cards("counter c 9 v add;", "999999999", "000000001").neededWidth(0));
        Check.same("40 ten digits below 0", -1, cards("counter c 9 v sub;", "999999999", "000000001").neededWidth(0));
        Check.same("40 nine digits", 9, cards("counter c 9 v add;", "999999998", "000000001").neededWidth(0));
        Check.same("40 by a roll", -1, cards("counter c 9 v add;roll 3 c c;", "500000000").neededWidth(0));
        Check.same("40 by a roll, just not", 9, cards("counter c 9 v add;roll 3 c c;", "499999999").neededWidth(0));
    }

    private static void widthOfAnEmptyDeck() {
        Check.same("40 no cards", 1, cards("counter c 9 v add;").neededWidth(0));
        Check.same("40 a card of 0", 1, cards("counter c 9 v add;", "0").neededWidth(0));
        Check.same("40 a counter that never adds", 1, Check.machine(NINE + "selector s 20 10;counter c 9 v add if s;card 999999999;").neededWidth(0));
    }

    private static void widthOfNegativeSums() {
        Check.same("40 signed", 1, cards("counter c 9 v signed;", "j", "9", "9").neededWidth(0));
        Check.same("40 signed", 2, cards("counter c 9 v signed;", "j", "b", "9").neededWidth(0));
        Check.same("40 signed", 2, cards("counter c 9 v signed;", "9", "1", "j").neededWidth(0));
    }

    /** "in a whole run": a sum in the middle that is taken back or cleared */
    private static void widthInTheMiddleOfARun() {
        Check.same("40 taken back", 3, cards("counter c 1 v signed;", "99", "1", "10j").neededWidth(0));
        Tabulator cleared = Check.machine("field v 1 3;field k 4 4;counter c 1 v add;control 1 k;clear 1 c;card 0501;card 0501;card 9991;card 0012;");
        Check.same("40 cleared", 4, cleared.neededWidth(0));
        cleared.removeCard(2);
        Check.same("40 cleared", 3, cleared.neededWidth(0));
        cleared.removeCard(1);
        Check.same("40 cleared", 2, cleared.neededWidth(0));
        Check.same("40 the last card alone", 2, cards("counter c 1 v add;", "9", "0", "1").neededWidth(0));
    }

    /** "in a whole run": its final total cycles of each level */
    private static void widthBehindFinalTotals() {
        for (int level = 1; level <= 3; level++) {
            Check.same("40 roll of level " + level, 2, cards("counter c 1 v add;roll " + level + " c c;", "5").neededWidth(0));
            Check.same("40 roll of level " + level, 1, cards("counter c 1 v add;roll " + level + " c c;", "4").neededWidth(0));
        }
    }

    private static void ownWidthDoesNotMatter() {
        for (int width = 1; width <= 9; width++) {
            Check.same("40 width " + width, 3, cards("counter c " + width + " v add;", "123", "456").neededWidth(0));
        }
    }

    /** "with which the counter would not overflow": the other counters have the widths of the plugboard */
    private static void otherWidthsStay() {
        Tabulator x = Check.machine("field v 1 2;field w 3 3;counter a 1 v add;counter b 3 w add;roll 1 a b;card 990;");
        Check.same("40 of the counter that is rolled into", 1, x.neededWidth(1));
        Tabulator y = Check.machine("field v 1 2;field w 3 3;counter a 2 v add;counter b 3 w add;roll 1 a b;card 990;");
        Check.same("40 of the counter that is rolled into", 2, y.neededWidth(1));
    }

    /** "the smallest WIDTH": of counters that are rolled into one another */
    private static void widthsOfRolledCounters() {
        Tabulator x = Check.machine("field v 1 3;field z 4 4;counter a 9 v add;counter b 3 z sub;roll 1 a b;roll 2 b a;roll 3 a a;card 400;");
        // a: 400, b: 400; a: 800; a: 1600
        Check.same("40 a", 4, x.neededWidth(0));
        Check.same("40 b", 3, x.neededWidth(1));
    }

    private static void lastCounter() {
        StringBuilder text = new StringBuilder("field v 1 2;field w 2 2;");
        for (int i = 0; i < 6; i++) {
            text.append("counter c").append((char) ('a' + i)).append(i == 5 ? " 9 v add;" : " 9 w add;");
        }
        Tabulator x = Check.machine(text + "card 99;card 01;");
        Check.same("40 counter 5", 3, x.neededWidth(5));
        Check.same("40 counter 4", 2, x.neededWidth(4));
        Check.throwsIndex("40 counter 6", () -> x.neededWidth(6));
    }

    // Promise 41

    private static void theOnlyCard() {
        Tabulator x = Check.machine("field v 1 1;counter c 1 v add;list v 1;total 1 c 1;total 2 c 1;total 3 c 1;card 0;");
        Check.same("41 without it there are no lines", 3, x.linesDependingOn(0));
        Check.throwsIndex("41 card 1", () -> x.linesDependingOn(1));
        x.removeCard(0);
        Check.throwsIndex("41 empty deck", () -> x.linesDependingOn(0));
    }

    /** "card: number of a card": the first and the last one */
    private static void firstAndLastCard() {
        Tabulator x = Check.machine("field k 1 2;counter c 4 k add;control 1 k;total 1 c 1;clear 1 c;card 11;card 12;card 13;card 14;");
        for (int card = 0; card < 4; card++) {
            Check.same("41 each card has a line", 1, x.linesDependingOn(card));
        }
        Tabulator forty = Check.machine("field k 1 1;field v 2 2;counter c 3 v add;control 1 k;total 3 c 1;" + "card 11;card 21;".repeat(20));
        Check.same("41 card 0", 1, forty.linesDependingOn(0));
        Check.same("41 card 39", 1, forty.linesDependingOn(39));
        Check.throwsIndex("41 card 40", () -> forty.linesDependingOn(40));
    }

    private static void noTotalLines() {
        Check.same("41 no lines", 0, Check.machine("field v 1 1;card 1;card 2;").linesDependingOn(0));
        Check.same("41 detail lines alone", 0, Check.machine("field v 1 1;list v 1;card 1;card 2;").linesDependingOn(1));
    }

    /** "that do not occur, with the same level and the same characters" */
    private static void sameLevelAndCharacters() {
        String plugs = "field k 1 1;field v 2 2;counter c 2 v add;control 1 k;total 1 c 1;clear 1 c;";
        Check.same("41 another group with the same sum", 0, Check.machine(plugs + "card 15;card 25;").linesDependingOn(0));
        Check.same("41 no such sum is left", 1, Check.machine(plugs + "card 15;card 26;").linesDependingOn(0));
        Check.same("41 groups on both sides become one", 3, Check.machine(plugs + "card 15;card 26;card 15;").linesDependingOn(1));
        Check.same("41 a card of 0", 0, Check.machine(plugs + "card 15;card 10;card 25;").linesDependingOn(1));
        Tabulator minus = Check.machine("field k 1 1;field v 2 2;counter c 1 v signed;control 1 k;total 1 c 38;clear 1 c;card 15;card 2f;");
        Check.same("41 the minus alone", 1, minus.linesDependingOn(0));
        Check.same("41 the minus alone", 1, minus.linesDependingOn(1));
        // with an asterisk in the place of the minus sign the lines are the same ones
        Tabulator hidden = Check.machine("field k 1 1;field v 2 2;counter c 1 v signed;control 1 k;total 1 c 39;clear 1 c;card 15;card 2f;");
        Check.same("41 the minus is not to be seen", 0, hidden.linesDependingOn(0));
        Tabulator levels = Check.machine("field k 1 1;field v 2 2;counter c 1 v add;control 1 k;total 1 c 1;total 2 c 1;clear 2 c;card 15;card 23;");
        // 5*, 8*, 8**; without card 0: 3*, 3**; without card 1: 5*, 5**
        Check.same("41 the level is another one", 3, levels.linesDependingOn(0));
        Check.same("41 the level is another one", 2, levels.linesDependingOn(1));
    }

    /** "the number of kept total lines ... among the kept total lines" */
    private static void keptTotalLines() {
        StringBuilder text = new StringBuilder("field k 1 2;field v 3 3;counter c 4 v add;control 3 k;list v 1;total 1 c 1;total 2 c 1;total 3 c 1;");
        for (int i = 0; i < 40; i++) {
            text.append("card ").append(10 + i).append("1;");
        }
        Tabulator x = Check.machine(text.toString());
        // of each card there are 4 lines; the sums of the first 30 cards, 1 to 30, are kept, and all of them occur without a card
        Check.same("41 the first card", 0, x.linesDependingOn(0));
        Check.same("41 the last card", 0, x.linesDependingOn(39));
        x.setColumn(29, 3, 5);
        // the last kept sum is 34; without card 29 it is 30 again
        Check.same("41 the card of the last kept lines", 3, x.linesDependingOn(29));
        Check.same("41 the card behind it", 0, x.linesDependingOn(30));
        Check.same("41 a card whose lines are not kept", 0, x.linesDependingOn(39));
        x.setColumn(29, 3, 1);
        x.setColumn(30, 3, 7);
        Check.same("41 the first card whose lines are not kept", 0, x.linesDependingOn(30));
        // without card 0 the sums 1 to 29 are followed by 36, which is kept then, instead of 30
        Check.same("41 the last sum is not kept without the card", 3, x.linesDependingOn(0));
        x.setColumn(30, 3, 1);
        x.setColumn(0, 3, 5);
        // the sums 5 to 34 are kept; without card 0 those are 1 to 30, and 31 to 34 occur among the lines that are not kept
        Check.same("41 lines that are not kept without the card", 4 * 3, x.linesDependingOn(0));
    }

    /** "among the kept total lines": a detail line with the same characters is none */
    private static void detailLinesDoNotCount() {
        Tabulator x = Check.machine("field k 1 1;field v 2 2;counter c 1 v add;control 1 k;list v 39;total 1 c 39;clear 1 c;card 15;card 2.;");
        Check.same("41 level and characters", 1, x.linesDependingOn(0));
        Tabulator y = Check.machine("field k 1 1;field v 2 2;counter c 1 v add;control 1 k;list v 1;list k 2;total 1 c 1;clear 1 c;card 15;card 25;card 30;");
        Check.same("41 detail lines that are gone do not count", 0, y.linesDependingOn(0));
        Check.same("41 a total line that is gone counts", 1, y.linesDependingOn(2));
    }

    // Promise 42

    private static void noErrors() {
        Check.same("42 no cards", 0, Check.machine("field v 1 1;counter a 1 v add;").crossfootErrors(0, 0, 0));
        Check.same("42 zeros", 0, Check.machine("field v 1 1;counter a 1 v add;card 0;card .;").crossfootErrors(0, 0, 0));
        Tabulator x = Check.machine("field v 1 1;selector s 2 10;counter a 3 v add if s;counter b 3 v add unless s;counter t 3 v add;" + "card 1;card 2x;".repeat(20));
        Check.same("42 a and b make t", 0, x.crossfootErrors(0, 1, 2));
    }

    /** "the number of cards ... after whose card cycle" */
    private static void errorsOfEachCard() {
        Tabulator all = Check.machine("field v 1 1;counter a 3 v add;counter b 3 v add;" + "card 1;".repeat(40));
        Check.same("42 each card", 40, all.crossfootErrors(0, 1, 0));
        Tabulator first = Check.machine("field v 1 1;field w 2 2;counter a 3 v signed;counter b 3 w signed;card 10;card b0;card 0.;");
        Check.same("42 the first card", 1, first.crossfootErrors(0, 0, 1));
        Tabulator last = Check.machine("field v 1 1;counter a 3 v add;counter b 3 v add;" + "card 0;".repeat(39) + "card 1;");
        Check.same("42 the last card", 1, last.crossfootErrors(0, 1, 0));
    }

    /** "the sum of the numbers in a and b": beyond WIDTH digits */
    private static void sumOfTenDigits() {
        Tabulator x = Check.machine(NINE + "counter a 9 v add;counter b 9 v sub;card 999999999;");
        Check.same("42 1999999998 is not 999999999", 1, x.crossfootErrors(0, 0, 0));
        Check.same("42 -1999999998", 1, x.crossfootErrors(1, 1, 0));
        Check.same("42 0 is not 999999999", 1, x.crossfootErrors(0, 1, 0));
        Tabulator y = Check.machine(NINE + "counter a 9 v add;counter b 9 v add;counter t 9 v add;roll 1 t t;control 1 v;card 999999999;card 0;");
        // t is 999999998 behind the roll, as the sum of a and b without its first digit is
        Check.same("42 the sum is not cut to nine digits", 2, y.crossfootErrors(0, 1, 2));
        Tabulator z = Check.machine("field v 1 1;counter a 1 v add;counter b 1 v add;counter t 2 v add;roll 1 t t;control 1 v;card 9;card 0;");
        Check.same("42 the sum is not cut to the width", 1, z.crossfootErrors(0, 1, 2));
    }

    /** "after whose card cycle": behind the totals that the card causes, before those that the next one causes or finish() makes */
    private static void afterTheCardCycle() {
        String plugs = "field k 1 1;field v 2 2;counter a 3 v add;counter b 3 v add;control 1 k;";
        Check.same("42 cleared by the next card", 2, Check.machine(plugs + "clear 1 a;card 15;card 25;card 35;").crossfootErrors(0, 0, 1));
        Check.same("42 behind the clearing", 2, Check.machine(plugs + "clear 1 a;clear 1 b;card 15;card 20;card 35;").crossfootErrors(0, 0, 1));
        Check.same("42 the final totals change nothing", 0, Check.machine(plugs + "roll 1 a a;card 10;card 10;").crossfootErrors(0, 0, 1));
        Check.same("42 the final totals repair nothing", 2, Check.machine(plugs + "clear 1 a;clear 1 b;card 15;card 15;").crossfootErrors(0, 0, 1));
    }

    /** The same counter may stand for a, b and sum. */
    private static void sameCounters() {
        Tabulator x = Check.machine("field v 1 1;counter a 3 v add;counter b 3 v sub;card 0;card 1;");
        Check.same("42 a + a = a for 0 alone", 1, x.crossfootErrors(0, 0, 0));
        Check.same("42 a + b = b for 0 alone", 1, x.crossfootErrors(0, 1, 1));
        Check.same("42 b + a = a for 0 alone", 1, x.crossfootErrors(1, 0, 0));
    }

    private static void lastCounters() {
        StringBuilder text = new StringBuilder("field v 1 1;field w 2 2;field z 3 3;");
        String[] fields = {"v", "v", "v", "v", "w", "z"};
        for (int i = 0; i < 6; i++) {
            text.append("counter c").append((char) ('a' + i)).append(" 3 ").append(fields[i]).append(" add;");
        }
        Tabulator x = Check.machine(text + "card 123;card 123;card 124;");
        Check.same("42 the last counters", 1, x.crossfootErrors(3, 4, 5));
        Check.same("42 the last counters", 3, x.crossfootErrors(4, 5, 0));
        Check.throwsIndex("42 a", () -> x.crossfootErrors(6, 0, 0));
        Check.throwsIndex("42 b", () -> x.crossfootErrors(0, 6, 0));
        Check.throwsIndex("42 sum", () -> x.crossfootErrors(0, 0, 6));
    }
}

/** Promises 39 to 42: trials on a copy of the machine. */
public final class TrialTest {
    private static final String TEXT =
        "field k 1 1; field v 2 3; counter c 2 v signed; counter d 3 v add; counter e 1 v sub; control 1 k;"
        + "list v 1; total 1 c 1; total 3 d 1; clear 1 c; punch 1 c 1; card 112; card 1.d; card 205; card 310; card 31a;";

    private TrialTest() {
    }

    public static void main(String[] args) {
        linesOfRun();
        neededWidth();
        neededWidthOfRolls();
        linesDependingOn();
        linesDependingOnTheSameLines();
        linesDependingOnKeptLines();
        crossfootErrors();
        nothingChanges();
        Check.ends("TrialTest");
    }

    private static void linesOfRun() {
        Tabulator x = Check.machine(TEXT);
        Check.same("39 linesOfRun", 5 + 3 + 1, x.linesOfRun());
        x.run(3);
        Check.same("39 a whole run", 9, x.linesOfRun());
        x.finish();
        Check.same("39 also of a finished machine", 9, x.linesOfRun());
        x.plugControl(1, -1);
        Check.same("39 with the plugboard of now", 7, x.linesOfRun());
        x.removeCard(0);
        Check.same("39 with the deck of now", 6, x.linesOfRun());
        Check.same("39 empty deck", 0, Check.machine("field v 1 1; counter c 1 v add; total 1 c 1;").linesOfRun());
        Check.same("39 no statements", 0, Check.machine("card 1;").linesOfRun());
    }

    private static void neededWidth() {
        Tabulator x = Check.machine(TEXT);
        // c is 12, 9, 0, 5, 0, 10, 0; d is 12, 15, 20, 30, 40; e is -12 .. -40
        Check.same("40 neededWidth", 2, x.neededWidth(0));
        Check.same("40 neededWidth", 2, x.neededWidth(1));
        Check.same("40 more than its width", 2, x.neededWidth(2));
        Check.throwsIndex("40 counter", () -> x.neededWidth(-1));
        Check.throwsIndex("40 counter", () -> x.neededWidth(3));
        Check.same("40 no card", 1, Check.machine("field v 1 9; counter c 5 v add;").neededWidth(0));
        Check.same("40 zero", 1, Check.machine("field v 1 9; counter c 5 v add; card .;").neededWidth(0));
        Check.same("40 nine", 1, Check.machine("field v 1 1; counter c 5 v sub; card 9;").neededWidth(0));
        Check.same("40 ten", 2, Check.machine("field v 1 1; counter c 1 v sub; card 9; card 1;").neededWidth(0));
        Check.same("40 nine digits", 9, Check.machine("field v 1 9; counter c 1 v sub; card 999999998; card 000000001;").neededWidth(0));
        Tabulator none = Check.machine("field v 1 9; counter c 1 v add; card 999999999; card 000000001;");
        Check.same("40 none", -1, none.neededWidth(0));
        none.removeCard(0);
        Check.same("40 with the deck of now", 1, none.neededWidth(0));
        Check.same("40 an overflow that goes back", 3,
            Check.machine("field v 1 2; counter c 2 v signed; card 99; card 01; card 9j;").neededWidth(0));
    }

    /** Only the width of this counter is another one in the trial. */
    private static void neededWidthOfRolls() {
        Tabulator x = Check.machine("field v 1 2; counter a 1 v add; counter b 2 v add; roll 1 a b; roll 3 b b; card 15; card 16;");
        // a = 5, 1 with width 1; 31 with width 2; b = 31 + 1, doubled at level 3
        Check.same("40 the counter that is rolled", 2, x.neededWidth(0));
        Check.same("40 the counter that it is rolled into", 2, x.neededWidth(1));
        Check.same("40 the same again", 2, x.neededWidth(0));
        Tabulator y = Check.machine("field v 1 2; counter a 2 v add; counter b 2 v add; roll 1 a b; roll 3 b b; card 15; card 16;");
        Check.same("40 a roll of the last total cycle counts", 3, y.neededWidth(1));
        Check.same("40 a roll of the last total cycle counts", 2, y.neededWidth(0));
    }

    private static void linesDependingOn() {
        Tabulator x = Check.machine(TEXT);
        // total lines: 9*, 5*, 20-0 = 10 + -10 = 0*, 40***
        Check.same("41 its group and the final total", 2, x.linesDependingOn(0));
        Check.same("41 its group and the final total", 2, x.linesDependingOn(1));
        Check.same("41 a group of one card", 2, x.linesDependingOn(2));
        Check.same("41 linesDependingOn", 2, x.linesDependingOn(3));
        Check.throwsIndex("41 card", () -> x.linesDependingOn(-1));
        Check.throwsIndex("41 card", () -> x.linesDependingOn(5));
        Tabulator one = Check.machine("field v 1 1; counter c 1 v add; list v 1; total 1 c 1; total 2 c 1; card 1;");
        Check.same("41 without the only card there are no lines", 2, one.linesDependingOn(0));
        Tabulator zero = Check.machine("field v 1 1; counter c 1 v add; list v 1; total 1 c 1; card 0; card 5;");
        Check.same("41 detail lines do not count", 0, zero.linesDependingOn(0));
        Check.same("41 total lines count", 1, zero.linesDependingOn(1));
        Check.throwsIndex("41 empty deck", () -> Check.machine("").linesDependingOn(0));
    }

    private static void linesDependingOnTheSameLines() {
        String text = "field k 1 1; field v 2 2; counter c 2 v add; control 1 k; total 1 c 1; clear 1 c;";
        Tabulator x = Check.machine(text + "card 15; card 25; card 35;");
        Check.same("41 another group has the same line", 0, x.linesDependingOn(1));
        Tabulator twice = Check.machine(text + "card 13; card 12; card 25; card 17;");
        Check.same("41 each line counts", 1, twice.linesDependingOn(3));
        Tabulator both = Check.machine(text + "card 14; card 21; card 14;");
        Check.same("41 two lines with the same characters count twice", 3, both.linesDependingOn(1));
        Tabulator shown = Check.machine("field v 1 1; counter c 1 v add; list v 1; total 1 c 1; card 5; card 0;");
        Check.same("41 a detail line is no total line", 1, shown.linesDependingOn(0));
        Tabulator stars = Check.machine("field k 1 1; field v 2 2; counter c 2 v add; control 1 k; total 1 c 1; total 2 c 39; total 3 c 39;"
            + "clear 1 c; card 15; card 25;");
        Check.same("41 lines of another level are other lines", 0, stars.linesDependingOn(0));
    }

    private static void linesDependingOnKeptLines() {
        StringBuilder text = new StringBuilder("field k 1 2; field v 3 3; counter c 5 v add; counter d 3 k add; control 3 k; list v 1;"
            + "total 1 c 1; total 2 c 1; total 3 c 1; roll 3 d c; clear 3 d;");
        for (int i = 0; i < 40; i++) {
            text.append("card ").append(50 + i).append(i == 39 ? 9 : 0).append(';');
        }
        Tabulator x = Check.machine(text.toString());
        // 160 lines; the total lines of the last ten cards are not kept
        Check.same("41 a card whose lines are not kept", 0, x.linesDependingOn(39));
        // the sums behind it are 50 less; the first two lines tell 0 as before
        Check.same("41 the first card changes the lines behind it", 90 - 2, x.linesDependingOn(0));
        Check.same("41 the last card with kept lines", 1, x.linesDependingOn(29));
    }

    private static void crossfootErrors() {
        Tabulator x = Check.machine("field v 1 2; selector s 3 1; counter a 3 v add if s; counter b 3 v add unless s; counter t 3 v add;"
            + "counter u 2 v add; card 301; card 402; card 501; card .02;");
        Check.same("42 crossfootErrors", 0, x.crossfootErrors(0, 1, 2));
        Check.same("42 a and b may change places", 0, x.crossfootErrors(1, 0, 2));
        Check.same("42 an overflow", 2, x.crossfootErrors(0, 1, 3));
        Check.same("42 each card counts", 4, x.crossfootErrors(0, 0, 1));
        Check.same("42 the same counter", 4, x.crossfootErrors(2, 2, 2));
        Check.same("42 crossfootErrors", 3, x.crossfootErrors(1, 2, 0));
        Check.throwsIndex("42 a", () -> x.crossfootErrors(-1, 0, 0));
        Check.throwsIndex("42 a", () -> x.crossfootErrors(4, 0, 0));
        Check.throwsIndex("42 b", () -> x.crossfootErrors(0, -1, 0));
        Check.throwsIndex("42 b", () -> x.crossfootErrors(0, 4, 0));
        Check.throwsIndex("42 sum", () -> x.crossfootErrors(0, 0, -1));
        Check.throwsIndex("42 sum", () -> x.crossfootErrors(0, 0, 4));
        Tabulator empty = Check.machine("field v 1 2; counter a 3 v add;");
        Check.same("42 empty deck", 0, empty.crossfootErrors(0, 0, 0));
        Tabulator total = Check.machine("field k 1 1; field v 2 2; counter a 3 v add; counter b 3 v add; control 1 k; clear 1 a; clear 1 b;"
            + "card 10; card 15; card 20;");
        Check.same("42 after the card cycle, behind the totals before it", 1, total.crossfootErrors(0, 1, 0));
        Tabulator big = Check.machine("field v 1 9; counter a 9 v add; counter b 9 v sub; card 999999999;");
        Check.same("42 a sum of ten digits", 1, big.crossfootErrors(0, 0, 1));
        Tabulator last = Check.machine("field v 1 1; counter a 3 v add; roll 1 a a; card 0; card 5;");
        Check.same("42 the final totals are behind the last card cycle", 1, last.crossfootErrors(0, 0, 0));
    }

    private static void nothingChanges() {
        Tabulator x = Check.machine(TEXT);
        x.save(0);
        x.run(3);
        x.linesOfRun();
        x.neededWidth(0);
        x.neededWidth(2);
        x.linesDependingOn(1);
        x.crossfootErrors(0, 1, 2);
        Check.same("processed", 3, x.processed());
        Check.same("counter", 5, x.counter(0));
        Check.same("counter", 20, x.counter(1));
        Check.same("overflows", 2, x.overflows(2));
        Check.same("lineCount", 4, x.lineCount());
        Check.same("summaryCount", 1, x.summaryCount());
        Check.same("groups", 1, x.groups(1));
        Check.same("line", Check.row(2, "9", 40, "*"), Check.line(x, 2));
        Check.same("deck", "112 1.d 205 310 31a", Check.deck(x));
        Check.same("run goes on", 2, x.run(9));
        Check.same("counter e keeps its width", 0, x.counter(2));
        x.restore(0);
        Check.same("a saved machine stays", 0, x.processed());
        Check.same("restack needs summary cards", 0, x.summaryCount());
    }
}

/** Promises 26 to 33: the machine, its card cycles and its total cycles. */
public final class MachineTest {
    private static final String TEXT =
        "field key 1 1; field v 2 3; selector x 3 10; selector one 1 1; selector late 1 1 delayed; selector xlate 3 10 delayed;"
        + "counter all 3 v add; counter net 3 v signed; counter neg 2 v sub if x; counter rest 3 v signed unless one;"
        + "control 1 key; list v 1; total 1 all 1; roll 1 all net; clear 1 all; punch 3 key 1;"
        + "card 110; card 12a; card 205; card 21b; card 399;";

    private MachineTest() {
    }

    public static void main(String[] args) {
        reset();
        run();
        finish();
        finishOfEmptyDeck();
        processed();
        counters();
        counterModes();
        overflow();
        rolls();
        selectors();
        groups();
        controlFieldsOfLastCard();
        ordersOfTheCycles();
        Check.ends("MachineTest");
    }

    private static void reset() {
        Tabulator x = Check.machine(TEXT);
        x.reset();
        Check.same("26 reset of a new machine", 0, x.processed());
        x.finish();
        Check.same("28 lineCount", 8, x.lineCount());
        Check.same("32 isSelected", true, x.isSelected(3));
        x.reset();
        isReset("26", x);
        Check.same("26 deck", "110 12a 205 21b 399", Check.deck(x));
        Check.same("26 the first card is the next one", 1, x.run(1));
        Check.same("26 counter", 10, x.counter(0));
        Check.same("26 no break on the first card", 0, x.groups(1));
        Check.same("26 line", "10", Check.line(x, 0));
        Tabulator y = Check.machine("field f 1 9; counter c 1 f add; selector s 1 9; card 999999999;");
        y.finish();
        Check.same("31 overflows", 1, y.overflows(0));
        Check.same("32 isSelected", true, y.isSelected(0));
        y.reset();
        Check.same("26 overflows", 0, y.overflows(0));
        Check.same("26 selectors", false, y.isSelected(0));
        Check.same("26 counter", 0, y.counter(0));
        Tabulator late = Check.machine(TEXT);
        late.run(2);
        late.reset();
        late.run(1);
        Check.same("26 no card before the first one", false, late.isSelected(2));
    }

    private static void isReset(String promise, Tabulator x) {
        Check.same(promise + " processed", 0, x.processed());
        Check.same(promise + " lineCount", 0, x.lineCount());
        Check.same(promise + " summaryCount", 0, x.summaryCount());
        for (int counter = 0; counter < 4; counter++) {
            Check.same(promise + " counter", 0, x.counter(counter));
            Check.same(promise + " overflows", 0, x.overflows(counter));
            Check.same(promise + " isSelected", false, x.isSelected(counter));
        }
        for (int level = 1; level <= 3; level++) {
            Check.same(promise + " groups", 0, x.groups(level));
        }
        Check.throwsIndex(promise + " lines", () -> x.lineLevel(0));
        Check.throwsIndex(promise + " summary cards", () -> x.summaryColumn(0, 1));
    }

    private static void run() {
        Tabulator x = Check.machine(TEXT);
        Check.same("27 run", 2, x.run(2));
        Check.same("29 processed", 2, x.processed());
        Check.throwsArgument("27 count", () -> x.run(0));
        Check.throwsArgument("27 count", () -> x.run(-1));
        Check.throwsArgument("27 count", () -> x.run(41));
        Check.same("27 run to the end", 3, x.run(40));
        Check.same("27 no final totals", 2, x.groups(1));
        Check.same("27 run behind the end", 0, x.run(1));
        Check.same("29 processed", 5, x.processed());
        x.finish();
        Check.throwsState("27 finished", () -> x.run(1));
        Check.throwsState("27 finished", () -> x.run(40));
        Check.throwsArgument("27 count before state", () -> x.run(0));
        Check.throwsArgument("27 count before state", () -> x.run(41));
        x.reset();
        Check.same("27 run after reset", 1, x.run(1));
    }

    private static void finish() {
        Tabulator x = Check.machine(TEXT);
        x.run(2);
        Check.same("28 finish", 5 + 3, x.finish());
        Check.same("28 processed", 5, x.processed());
        Check.same("28 groups", 3, x.groups(1));
        Check.same("28 groups", 1, x.groups(2));
        Check.same("28 groups", 1, x.groups(3));
        Check.same("28 summaryCount", 1, x.summaryCount());
        Check.throwsState("28 finished", () -> x.finish());
        Check.same("28 nothing changed", 3, x.groups(1));
        Check.same("28 nothing changed", 8, x.lineCount());
        x.reset();
        Check.same("28 finish after reset", 8, x.finish());
        Tabulator y = Check.machine(TEXT);
        y.run(5);
        Check.same("28 finish behind the last card", 8, y.finish());
        y.removeCard(4);
        Check.same("28 a change of the deck resets", 4 + 2, y.finish());
    }

    private static void finishOfEmptyDeck() {
        Tabulator x = Check.machine("field f 1 1; counter c 1 f add; list f 1; total 1 c 1; punch 2 c 1;");
        Check.same("28 finish", 0, x.finish());
        Check.same("28 groups", 0, x.groups(1));
        Check.same("28 groups", 0, x.groups(3));
        Check.same("28 summaryCount", 0, x.summaryCount());
        Check.throwsState("28 finished", () -> x.finish());
        Check.throwsState("28 finished", () -> x.run(1));
    }

    private static void processed() {
        Tabulator x = Check.machine(TEXT);
        for (int card = 1; card <= 5; card++) {
            x.run(1);
            Check.same("29 processed", card, x.processed());
        }
        x.reset();
        Check.same("29 processed", 0, x.processed());
    }

    private static void counters() {
        Tabulator x = Check.machine(TEXT);
        int[] all = {10, 30, 5, 16, 99};
        int[] net = {10, -10, 25, 14, 14 + 16 + 99};
        int[] neg = {0, -20, -20, -31, -31};
        int[] rest = {0, 0, 5, -6, 93};
        for (int card = 0; card < 5; card++) {
            x.run(1);
            Check.same("30 all after " + card, all[card], x.counter(0));
            Check.same("30 net after " + card, net[card], x.counter(1));
            Check.same("30 neg after " + card, neg[card], x.counter(2));
            Check.same("30 rest after " + card, rest[card], x.counter(3));
        }
        x.finish();
        Check.same("30 cleared", 0, x.counter(0));
        Check.same("30 rolled before", 129 + 99, x.counter(1));
        Check.throwsIndex("30 counter", () -> x.counter(-1));
        Check.throwsIndex("30 counter", () -> x.counter(4));
    }

    private static void counterModes() {
        Tabulator x = Check.machine("field v 1 2; selector s 3 1; counter a 5 v add; counter b 5 v sub; counter c 5 v signed;"
            + "counter d 5 v add if s; counter e 5 v sub unless s; counter f 5 v signed unless s; card 1d1; card .d; card 2xb;");
        int[][] after = {{13, -13, -13, 13, 0, 0}, {16, -16, -16, 13, -3, -3}, {36, -36, -36, 33, -3, -3}};
        for (int card = 0; card < 3; card++) {
            x.run(1);
            for (int counter = 0; counter < 6; counter++) {
                Check.same("30 counter " + counter + " after " + card, after[card][counter], x.counter(counter));
            }
        }
    }

    private static void overflow() {
        Tabulator x = Check.machine("field v 1 2; field w 1 9; counter c 1 v add; counter d 2 v sub; counter e 9 w add; counter f 1 v signed;"
            + "card 09; card 01; card 99; card 990000000; card 0j; card 1a;");
        x.run(1);
        Check.same("30 counter", 9, x.counter(0));
        Check.same("31 a full counter has not overflowed", 0, x.overflows(0));
        x.run(1);
        Check.same("30 counter", 0, x.counter(0));
        Check.same("31 overflows", 1, x.overflows(0));
        Check.same("30 counter", -10, x.counter(1));
        Check.same("31 overflows", 0, x.overflows(1));
        x.run(1);
        Check.same("30 counter", 9, x.counter(0));
        Check.same("31 overflows", 2, x.overflows(0));
        Check.same("30 the sign is kept", -9, x.counter(1));
        Check.same("31 overflows", 1, x.overflows(1));
        Check.same("30 nine digits", 90000000, x.counter(2));
        Check.same("31 overflows", 1, x.overflows(2));
        x.run(1);
        Check.same("30 signed", 8, x.counter(3));
        x.run(1);
        Check.same("30 signed", -1, x.counter(3));
        x.run(1);
        Check.same("30 signed, the sign is kept", -1, x.counter(3));
        Check.throwsIndex("31 counter", () -> x.overflows(-1));
        Check.throwsIndex("31 counter", () -> x.overflows(4));
        Tabulator big = Check.machine("field w 1 9; counter e 9 w add; counter m 9 w signed; counter t 3 w add; "
            + "card 999999999; card 999999999; card 00000000j; card 99999999j;");
        big.run(2);
        Check.same("30 nine digits", 999999998, big.counter(0));
        Check.same("31 overflows", 1, big.overflows(0));
        Check.same("30 three digits of nine", 998, big.counter(2));
        Check.same("31 each sum counts once", 2, big.overflows(2));
        big.run(2);
        Check.same("30 signed", -10, big.counter(1));
        Check.same("31 overflows", 1, big.overflows(1));
        Tabulator zero = Check.machine("field w 1 2; counter e 1 w sub; total 1 e 1; card 10;");
        zero.finish();
        Check.same("30 0 has no sign", Check.row(1, "0", 40, "*"), Check.line(zero, 0));
        Check.same("31 overflows", 1, zero.overflows(0));
    }

    private static void rolls() {
        Tabulator x = Check.machine("field v 1 2; counter a 3 v add; counter b 1 v sub; counter c 2 v signed;"
            + "roll 1 a a; roll 1 a b; roll 2 b c; roll 3 c a; clear 2 b; card 12;");
        x.run(1);
        Check.same("30 a", 12, x.counter(0));
        Check.same("30 b", -2, x.counter(1));
        Check.same("31 b", 1, x.overflows(1));
        x.finish();
        // a = 24; b = -2 + 24 = 22, 2 with an overflow; c = 12 + 2 = 14; b = 0; a = 24 + 14
        Check.same("30 a", 38, x.counter(0));
        Check.same("30 b", 0, x.counter(1));
        Check.same("31 a roll may overflow", 2, x.overflows(1));
        Check.same("30 c", 14, x.counter(2));
        Tabulator y = Check.machine("field v 1 2; counter a 9 v add; counter b 9 v add; roll 1 b a; roll 1 a b; card 02;");
        y.finish();
        Check.same("30 rolls in order", 4, y.counter(0));
        Check.same("30 rolls in order", 6, y.counter(1));
    }

    private static void selectors() {
        Tabulator x = Check.machine(TEXT);
        for (int selector = 0; selector < 4; selector++) {
            Check.same("32 no card yet", false, x.isSelected(selector));
        }
        boolean[][] on = {
            {false, true, false, false},
            {true, true, true, false},
            {false, false, true, true},
            {true, false, false, false},
            {false, false, false, true}};
        for (int card = 0; card < 5; card++) {
            x.run(1);
            for (int selector = 0; selector < 4; selector++) {
                Check.same("32 selector " + selector + " after " + card, on[card][selector], x.isSelected(selector));
            }
        }
        x.finish();
        Check.same("32 after the final totals", true, x.isSelected(3));
        Check.throwsIndex("32 selector", () -> x.isSelected(-1));
        Check.throwsIndex("32 selector", () -> x.isSelected(4));
        Tabulator y = Check.machine("selector zero 20 0; selector nine 1 9; selector x 2 10; "
            + "card .x.................0; card j................... ; card 9b.................a; card 10;");
        boolean[][] punches = {{true, false, true}, {false, true, false}, {true, true, true}, {false, false, false}};
        for (int card = 0; card < 4; card++) {
            y.run(1);
            for (int selector = 0; selector < 3; selector++) {
                Check.same("32 punch " + selector + " on " + card, punches[card][selector], y.isSelected(selector));
            }
        }
    }

    private static void groups() {
        Tabulator x = Check.machine("field a 1 1; field b 2 2; field c 3 3; control 1 a; control 2 b; control 3 c;"
            + "card 111; card 211; card 221; card 222; card 222; card 221; card 121;");
        int[][] after = {{0, 0, 0}, {1, 0, 0}, {2, 1, 0}, {3, 2, 1}, {3, 2, 1}, {4, 3, 2}, {5, 3, 2}};
        for (int card = 0; card < 7; card++) {
            x.run(1);
            for (int level = 1; level <= 3; level++) {
                Check.same("33 groups " + level + " after " + card, after[card][level - 1], x.groups(level));
            }
        }
        x.finish();
        Check.same("33 groups", 6, x.groups(1));
        Check.same("33 groups", 4, x.groups(2));
        Check.same("33 groups", 3, x.groups(3));
        Check.same("33 groups as counted in the deck", x.groupCount(2), x.groups(2));
        Check.throwsArgument("33 level", () -> x.groups(0));
        Check.throwsArgument("33 level", () -> x.groups(4));
        Check.throwsArgument("33 level", () -> x.groups(-1));
    }

    /** The field of a summary card is that of the last card of the group. */
    private static void controlFieldsOfLastCard() {
        Tabulator x = Check.machine("field a 1 1; field b 2 3; control 1 a; punch 1 b 1; card 112; card 1.b; card 2x5; card 2h.;");
        x.finish();
        Check.same("28 summary card of the last card", ".b", Check.summary(x, 0));
        Check.same("28 summary card of the last card", "h", Check.summary(x, 1));
    }

    /** Roll, print, punch, clear, within a level; the levels ascending; the new card adds behind them. */
    private static void ordersOfTheCycles() {
        Tabulator x = Check.machine("field a 1 1; field v 2 2; counter c 2 v add; counter d 3 v add; control 2 a; list v 1;"
            + "clear 1 c; punch 1 d 4; punch 1 c 1; total 1 d 10; total 1 c 5; roll 1 c d; total 2 d 1; total 2 c 5;"
            + "card 13; card 14; card 25;");
        x.run(3);
        Check.same("27 lineCount", 5, x.lineCount());
        Check.same("27 detail line", "3", Check.line(x, 0));
        Check.same("27 detail line", "4", Check.line(x, 1));
        Check.same("27 total line of level 1", Check.row(6, "7", 11, "14", 40, "*"), Check.line(x, 2));
        Check.same("27 total line of level 2", Check.row(2, "14", 6, "0", 39, "**"), Check.line(x, 3));
        Check.same("27 detail line behind the totals", "5", Check.line(x, 4));
        Check.same("27 summary card", "07.014", Check.summary(x, 0));
        Check.same("27 the new card adds behind the totals", 5, x.counter(0));
        Check.same("27 the new card adds behind the totals", 19, x.counter(1));
        int[] levels = {0, 0, 1, 2, 0};
        for (int line = 0; line < 5; line++) {
            Check.same("27 level of line " + line, levels[line], x.lineLevel(line));
        }
    }
}

/**
 * What is printed and punched, and promises 34 to 38: a test for each sentence of the document that names a boundary
 * case. The sentence stands above its test. What is refused is in RefusalTest.
 */
public final class OutputLimitsTest {
    private static final String NINE = "field v 1 9;";

    private OutputLimitsTest() {
    }

    public static void main(String[] args) {
        places();
        numbers();
        summaries();
        keptLines();
        keptSummaryCards();
        Check.ends("OutputLimitsTest");
    }

    private static void places() {
        detailLinesAtTheEnd();
        totalLinesAtTheEnd();
        asterisksOfEachLevel();
        laterPrintingReplaces();
        statementsOfALaterLine();
        positionsOfALine();
    }

    private static void numbers() {
        zeroAsOneDigit();
        numbersOfEachLength();
        charactersOfColumns();
    }

    private static void summaries() {
        countersOnSummaryCards();
        fieldsOnSummaryCards();
        beyondTheLastColumn();
        laterPunchingReplaces();
        fieldsOfTheCardBefore();
        columnsOfASummaryCard();
    }

    private static void keptLines() {
        noLines();
        lastLinesThatAreKept();
        totalLinesAtTheLimit();
        linesThatAreCounted();
        linesBehindAReset();
    }

    private static void keptSummaryCards() {
        noSummaryCards();
        lastSummaryCardsThatAreKept();
        summaryCardsThatAreCounted();
    }

    // "A line has 40 positions, a card has 20 columns; what would be beyond is left out."

    /** "from its POSITION on", up to the last position and beyond it */
    private static void detailLinesAtTheEnd() {
        for (int position = 1; position <= 40; position++) {
            Tabulator x = Check.machine(NINE + "list v " + position + ";card 123456789;card 9;");
            x.run(2);
            int fit = Math.min(9, 41 - position);
            Check.same("35 position " + position, Check.row(position, "123456789".substring(0, fit)), Check.line(x, 0));
            Check.same("35 no line runs over into the next one", Check.row(position, "9"), Check.line(x, 1));
            Check.same("34 lineCount", 2, x.lineCount());
        }
    }

    /** "in WIDTH + 1 characters", up to the last position and beyond it */
    private static void totalLinesAtTheEnd() {
        for (int position = 25; position <= 40; position++) {
            Tabulator x = Check.machine(NINE + "counter c 9 v sub;total 2 c " + position + ";card 123456789;");
            x.finish();
            String whole = " ".repeat(position - 1) + "123456789-" + " ".repeat(40);
            Check.same("35 position " + position, whole.substring(0, 38) + "**", Check.line(x, 0));
        }
        for (int position = 37; position <= 40; position++) {
            Tabulator x = Check.machine("field v 1 1;counter c 1 v sub;total 1 c " + position + ";card 7;");
            x.finish();
            String whole = " ".repeat(position - 1) + "7-" + " ".repeat(40);
            Check.same("35 width 1, position " + position, whole.substring(0, 39) + "*", Check.line(x, 0));
        }
    }

    /** "Then as many asterisks as the level stand at the end of the line." */
    private static void asterisksOfEachLevel() {
        String[] stars = {"", "*", "**", "***"};
        for (int level = 1; level <= 3; level++) {
            Tabulator x = Check.machine("field v 1 9;counter c 9 v sub;list v 32;total " + level + " c 31;total " + level + " c 1;card 123456789;");
            x.finish();
            Check.same("35 no asterisk on a detail line", Check.row(32, "123456789"), Check.line(x, 0));
            String line = "123456789-" + " ".repeat(20) + "123456789-";
            Check.same("35 asterisks replace what was there", line.substring(0, 40 - level) + stars[level], Check.line(x, 1));
        }
    }

    /** "What is printed or punched later in the same place replaces what was there." */
    private static void laterPrintingReplaces() {
        Tabulator lists = Check.machine("field v 1 3;field w 4 5;list v 1;list w 2;list w 5;list v 4;card 12345;card 123;card ...45;");
        lists.run(3);
        Check.same("35 digits replace", "145123", Check.line(lists, 0));
        Check.same("35 blanks replace", "1  123", Check.line(lists, 1));
        Check.same("35 digits replace blanks, blanks digits", " 45", Check.line(lists, 2));
        Tabulator totals = Check.machine("field v 1 3;counter c 3 v add;counter d 2 v sub;counter e 3 v add;clear 1 e;"
            + "total 1 c 1;total 1 d 2;total 1 d 11;total 1 c 10;total 3 e 1;total 3 c 2;total 3 c 21;total 3 e 21;card 123;");
        totals.finish();
        // d is -123, of which 23 is kept
        Check.same("35 digits and the minus replace", Check.row(1, "123-", 10, "123", 40, "*"), Check.line(totals, 0));
        Check.same("35 blanks in front replace", Check.row(2, "123", 23, "0", 38, "***"), Check.line(totals, 1));
        Tabulator minus = Check.machine("field v 1 1;counter c 1 v sub;counter d 1 v add;total 1 c 1;total 1 d 2;total 2 c 2;total 2 d 1;card 7;");
        minus.finish();
        Check.same("35 a digit replaces the minus", Check.row(1, "77", 40, "*"), Check.line(minus, 0));
        Check.same("35 the blank behind a number replaces", Check.row(1, "7 -", 39, "**"), Check.line(minus, 1));
    }

    /** What was printed on a line is not on the next one. */
    private static void statementsOfALaterLine() {
        Tabulator x = Check.machine("field v 1 2;field k 3 3;counter c 2 v add;control 1 k;list v 1;total 1 c 11;total 2 c 21;clear 1 c;card 121;card .32;");
        x.finish();
        String[] due = {"12", Check.row(11, "12", 40, "*"), " 3", Check.row(12, "3", 40, "*"), Check.row(22, "0", 39, "**")};
        for (int line = 0; line < due.length; line++) {
            Check.same("35 line " + line, due[line], Check.line(x, line));
        }
    }

    /** "position: 1 to 40" */
    private static void positionsOfALine() {
        Tabulator x = Check.machine("field v 1 1;list v 1;list v 2;list v 39;list v 40;card 5;card 6;");
        x.run(2);
        for (int position = 1; position <= 40; position++) {
            boolean printed = position <= 2 || position >= 39;
            Check.same("35 position " + position, printed ? '5' : ' ', x.lineCharacter(0, position));
            Check.same("35 position " + position, printed ? '6' : ' ', x.lineCharacter(1, position));
        }
        for (int position : new int[] {Integer.MIN_VALUE, -1, 0, 41, 42, Integer.MAX_VALUE}) {
            Check.throwsIndex("35 position " + position, () -> x.lineCharacter(0, position));
            Check.throwsIndex("35 position " + position, () -> x.lineCharacter(1, position));
        }
    }

    // numbers

    /** "(0 as one digit 0)" */
    private static void zeroAsOneDigit() {
        for (int width = 1; width <= 9; width++) {
            Tabulator x = Check.machine(NINE + "counter c " + width + " v sub;total 1 c 1;punch 1 c 1;card .;");
            x.finish();
            Check.same("35 width " + width, Check.row(width, "0", 40, "*"), Check.line(x, 0));
            Check.same("38 width " + width, "0".repeat(width), Check.summary(x, 0));
        }
    }

    /** "right-aligned in WIDTH characters with blanks in front ... then - if it is negative, else a blank" */
    private static void numbersOfEachLength() {
        for (int width = 1; width <= 9; width++) {
            for (int length = 1; length <= width; length++) {
                for (String digits : new String[] {"1000000000".substring(0, length), "9999999999".substring(0, length)}) {
                    String card = "0".repeat(9 - length) + digits;
                    Tabulator x = Check.machine(NINE + "counter c " + width + " v add;counter d " + width + " v sub;total 1 c 1;total 1 d 21;"
                        + "punch 1 c 1;punch 1 d 11;card " + card + ";");
                    x.finish();
                    Check.same("35 " + digits + " with width " + width,
                        Check.row(1 + width - length, digits, 21 + width - length, digits + "-", 40, "*"), Check.line(x, 0));
                    String padded = "0".repeat(width - length) + digits;
                    String negative = padded.substring(0, width - 1) + (padded.endsWith("9") ? 'j' : padded.endsWith("1") ? 'b' : 'a');
                    Check.same("38 " + digits + " with width " + width, padded + ".".repeat(10 - width) + negative, Check.summary(x, 0));
                }
            }
        }
    }

    /** "(a digit as itself, with or without an X punch; other columns as blanks)" */
    private static void charactersOfColumns() {
        Tabulator x = Check.machine("field a 1 9;field b 10 18;field c 19 20;list a 1;list b 10;list c 19;card 0123456789abcdefghij;card x.1.x.2x.a;");
        x.run(2);
        Check.same("35 all digits", "01234567890123456789", Check.line(x, 0));
        Check.same("35 X punches and empty columns", "  1   2  0", Check.line(x, 1));
    }

    // summary cards

    /** "the absolute value of the counter with WIDTH digits (zeros in front), the last one with an X punch if the number is negative" */
    private static void countersOnSummaryCards() {
        Tabulator x = Check.machine("field v 1 2;counter c 5 v sub;counter d 1 v add;counter e 9 v sub;punch 1 c 1;punch 1 d 7;punch 1 e 12;card 12;");
        x.finish();
        Check.same("38 counters", "0001c.2....00000001c", Check.summary(x, 0));
        Check.same("38 X punch", 102, x.summaryColumn(0, 5));
        Check.same("38 no X punch", 2, x.summaryColumn(0, 7));
        Check.same("38 the last column", 102, x.summaryColumn(0, 20));
        Check.same("38 between them", -1, x.summaryColumn(0, 6));
    }

    /** "the columns of the field as they are on the card before" */
    private static void fieldsOnSummaryCards() {
        Tabulator x = Check.machine("field a 1 8;field b 9 9;field c 12 20;punch 1 c 1;punch 1 b 10;punch 1 a 13;card 0.x9aj.5xbb.x.0j...5;");
        x.finish();
        Check.same("38 fields", ".x.0j...5x..0.x9aj.5", Check.summary(x, 0));
    }

    /** "what would be beyond is left out" */
    private static void beyondTheLastColumn() {
        for (int column = 1; column <= 20; column++) {
            Tabulator x = Check.machine(NINE + "counter c 9 v sub;control 1 v;clear 1 c;punch 1 v " + column + ";punch 2 c " + column + ";punch 3 v 1;"
                + "card 123456789;card 12345678j;");
            x.finish();
            int fit = Math.min(9, 21 - column);
            String before = ".".repeat(column - 1);
            Check.same("38 field at " + column, before + "12345678j".substring(0, fit), Check.summary(x, 0));
            Check.same("38 counter at " + column, before + "000000000".substring(0, fit), Check.summary(x, 1));
            Check.same("38 no card runs over into the next one", "12345678j", Check.summary(x, 2));
        }
        Tabulator cut = Check.machine("field v 1 2;counter c 2 v sub;punch 1 c 19;punch 2 c 20;card 12;");
        cut.finish();
        Check.same("38 the last digit has the X punch", "..................1c", Check.summary(cut, 0));
        Check.same("38 a digit beyond takes its X punch along", "...................1", Check.summary(cut, 1));
    }

    /** "What is ... punched later in the same place replaces what was there." */
    private static void laterPunchingReplaces() {
        Tabulator x = Check.machine("field v 1 3;field w 4 4;counter c 2 v sub;"
            + "punch 1 v 1;punch 1 c 2;punch 1 w 2;punch 2 c 1;punch 2 v 2;punch 3 c 2;punch 3 c 1;card 1.x;");
        x.finish();
        // c is -100, of which 00 is kept
        Check.same("38 a digit replaces, and an empty column too", "1.0", Check.summary(x, 0));
        Check.same("38 the field replaces the counter", "01.x", Check.summary(x, 1));
        Check.same("38 the counter again", "000", Check.summary(x, 2));
        Tabulator xPunch = Check.machine("field v 1 1;counter c 1 v sub;counter d 1 v add;punch 1 c 1;punch 1 d 1;punch 2 d 1;punch 2 c 1;card 5;");
        xPunch.finish();
        Check.same("38 no X punch is left", "5", Check.summary(xPunch, 0));
        Check.same("38 the X punch comes along", "f", Check.summary(xPunch, 1));
    }

    /** "(the card before is the last card that was processed)" */
    private static void fieldsOfTheCardBefore() {
        Tabulator x = Check.machine("field k 1 1;field v 2 3;control 1 k;punch 1 v 1;punch 3 k 1;card 111;card 1x2;card 233;card 3.x;");
        String[] due = {"x2", "33"};
        for (int summary = 0; summary < 2; summary++) {
            x.run(summary == 0 ? 3 : 1);
            Check.same("37 summaryCount", summary + 1, x.summaryCount());
            Check.same("38 summary card " + summary, due[summary], Check.summary(x, summary));
        }
        x.finish();
        Check.same("38 of the last card of the deck", ".x", Check.summary(x, 2));
        Check.same("38 of the last card of the deck", "3", Check.summary(x, 3));
    }

    /** "column: 1 to 20" */
    private static void columnsOfASummaryCard() {
        Tabulator x = Check.machine("field v 1 1;punch 1 v 1;punch 1 v 20;card 5;");
        x.finish();
        for (int column = 1; column <= 20; column++) {
            Check.same("38 column " + column, column == 1 || column == 20 ? 5 : -1, x.summaryColumn(0, column));
        }
        for (int column : new int[] {Integer.MIN_VALUE, -1, 0, 21, 22, Integer.MAX_VALUE}) {
            Check.throwsIndex("38 column " + column, () -> x.summaryColumn(0, column));
        }
        for (int summary : new int[] {Integer.MIN_VALUE, -1, 1, 2, 40, Integer.MAX_VALUE}) {
            Check.throwsIndex("38 card " + summary, () -> x.summaryColumn(summary, 1));
        }
    }

    // "At most 120 lines and 40 summary cards are kept; further ones are counted but not kept."

    private static void noLines() {
        for (Tabulator x : new Tabulator[] {new Tabulator(), Check.machine("field v 1 1;list v 1;card 1;"), Check.machine("field v 1 1;list v 1;")}) {
            Check.same("34 lineCount", 0, x.lineCount());
            for (int line : new int[] {-1, 0, 1, 119, 120}) {
                Check.throwsIndex("35 line " + line, () -> x.lineCharacter(line, 1));
                Check.throwsIndex("36 line " + line, () -> x.lineLevel(line));
            }
        }
    }

    /** Each card prints a detail line and, behind the first one, three total lines. */
    private static Tabulator fourLinesACard() {
        return Check.machine("field v 1 1;counter c 3 v add;control 3 v;list v 40;total 1 c 1;total 2 c 1;total 3 c 1;" + "card 1;card 2;".repeat(20));
    }

    /** "At most 120 lines ... are kept": 117, 121 and more lines are printed */
    private static void lastLinesThatAreKept() {
        Tabulator x = fourLinesACard();
        x.run(30);
        Check.same("34 lineCount", 117, x.lineCount());
        Check.same("36 line 116", 0, x.lineLevel(116));
        for (int line : new int[] {117, 118, 119, 120}) {
            Check.throwsIndex("36 line " + line, () -> x.lineLevel(line));
            Check.throwsIndex("35 line " + line, () -> x.lineCharacter(line, 1));
        }
        x.run(1);
        Check.same("34 lineCount", 121, x.lineCount());
        Check.same("36 line 117", 1, x.lineLevel(117));
        Check.same("36 line 118", 2, x.lineLevel(118));
        Check.same("36 line 119", 3, x.lineLevel(119));
        Check.same("35 line 119", Check.row(2, "45", 38, "***"), Check.line(x, 119));
        for (int times = 0; times < 2; times++) {
            for (int line : new int[] {120, 121, 159, Integer.MAX_VALUE}) {
                Check.throwsIndex("36 line " + line, () -> x.lineLevel(line));
                Check.throwsIndex("35 line " + line, () -> x.lineCharacter(line, 1));
            }
            if (times == 0) {
                Check.same("28 finish", 160, x.finish());
            }
        }
        Check.same("35 line 119 stays", Check.row(2, "45", 38, "***"), Check.line(x, 119));
        Check.same("35 line 0 stays", Check.row(40, "1"), Check.line(x, 0));
        Check.same("36 line 119 stays", 3, x.lineLevel(119));
    }

    /** Exactly 119 and 120 lines; the last one that is kept is a detail line or a total line. */
    private static void totalLinesAtTheLimit() {
        // 40 detail lines, and two total lines of each of 40 groups
        Tabulator x = Check.machine("field v 1 1;counter c 3 v add;control 2 v;list v 40;total 1 c 1;total 2 c 1;" + "card 1;card 2;".repeat(20));
        Check.same("27 run", 40, x.run(40));
        Check.same("34 lineCount", 118, x.lineCount());
        Check.same("36 line 117", 0, x.lineLevel(117));
        Check.throwsIndex("36 line 118", () -> x.lineLevel(118));
        Check.same("28 finish", 120, x.finish());
        Check.same("36 line 118", 1, x.lineLevel(118));
        Check.same("36 line 119", 2, x.lineLevel(119));
        Check.same("35 line 119", Check.row(2, "60", 39, "**"), Check.line(x, 119));
        Check.throwsIndex("36 line 120", () -> x.lineLevel(120));
        // one total line of level 3 more
        Tabulator y = Check.machine("field v 1 1;counter c 3 v add;control 2 v;list v 40;total 1 c 1;total 2 c 1;total 3 c 1;" + "card 1;card 2;".repeat(20));
        Check.same("28 finish", 121, y.finish());
        Check.same("36 line 119", 2, y.lineLevel(119));
        Check.throwsIndex("36 line 120", () -> y.lineLevel(120));
        // a group less
        Tabulator z = Check.machine("field v 1 1;counter c 3 v add;control 2 v;list v 40;total 1 c 1;total 2 c 1;total 3 c 1;" + "card 1;card 2;".repeat(20));
        z.setColumn(39, 1, 1);
        Check.same("28 finish", 119, z.finish());
        Check.same("36 line 118", 3, z.lineLevel(118));
        Check.throwsIndex("36 line 119", () -> z.lineLevel(119));
    }

    /** "Returns the number of lines printed since the machine was reset, including those that are not kept." */
    private static void linesThatAreCounted() {
        Tabulator x = fourLinesACard();
        for (int card = 1; card <= 40; card++) {
            x.run(1);
            Check.same("34 behind card " + card, 4 * card - 3, x.lineCount());
        }
        x.finish();
        Check.same("34 all lines", 160, x.lineCount());
    }

    private static void linesBehindAReset() {
        Tabulator x = fourLinesACard();
        x.finish();
        x.reset();
        Check.same("34 lineCount", 0, x.lineCount());
        Check.throwsIndex("36 line 0", () -> x.lineLevel(0));
        x.run(1);
        Check.same("34 lineCount", 1, x.lineCount());
        Check.same("35 line 0", Check.row(40, "1"), Check.line(x, 0));
        Check.throwsIndex("36 line 1", () -> x.lineLevel(1));
        Check.throwsIndex("35 line 1", () -> x.lineCharacter(1, 1));
    }

    private static void noSummaryCards() {
        for (Tabulator x : new Tabulator[] {new Tabulator(), Check.machine("field v 1 1;punch 1 v 1;card 1;"), Check.machine("field v 1 1;punch 1 v 1;")}) {
            Check.same("37 summaryCount", 0, x.summaryCount());
            for (int summary : new int[] {-1, 0, 1, 39, 40}) {
                Check.throwsIndex("38 card " + summary, () -> x.summaryColumn(summary, 1));
            }
        }
    }

    /** "At most ... 40 summary cards are kept": 39, 40, 41 and more are punched */
    private static void lastSummaryCardsThatAreKept() {
        Tabulator x = Check.machine("field v 1 1;field n 2 3;counter c 3 v add;control 1 v;punch 1 c 1;punch 2 v 5;punch 3 v 9;" + "card 1;card 2;".repeat(20));
        x.run(40);
        Check.same("37 summaryCount", 39, x.summaryCount());
        Check.same("38 card 38", "058", Check.summary(x, 38));
        Check.throwsIndex("38 card 39", () -> x.summaryColumn(39, 1));
        x.finish();
        Check.same("37 summaryCount", 42, x.summaryCount());
        Check.same("38 card 39", "060", Check.summary(x, 39));
        for (int summary : new int[] {40, 41, 42, Integer.MAX_VALUE}) {
            Check.throwsIndex("38 card " + summary, () -> x.summaryColumn(summary, 1));
        }
        Check.same("38 card 0 stays", "001", Check.summary(x, 0));
    }

    /** "Returns the number of summary cards punched since the machine was reset, including those that are not kept." */
    private static void summaryCardsThatAreCounted() {
        Tabulator x = Check.machine("field v 1 1;control 3 v;punch 1 v 1;punch 2 v 2;punch 3 v 3;" + "card 1;card 2;".repeat(20));
        for (int card = 1; card <= 40; card++) {
            x.run(1);
            Check.same("37 behind card " + card, 3 * card - 3, x.summaryCount());
        }
        x.finish();
        Check.same("37 all summary cards", 120, x.summaryCount());
        Check.same("38 card 39", "2", Check.summary(x, 39));
        Check.throwsIndex("38 card 40", () -> x.summaryColumn(40, 1));
        x.reset();
        Check.same("37 reset", 0, x.summaryCount());
        Check.throwsIndex("38 card 0", () -> x.summaryColumn(0, 1));
    }
}

/** Promises 34 to 38: the lines and the summary cards. */
public final class OutputTest {
    private OutputTest() {
    }

    public static void main(String[] args) {
        detailLines();
        totalLines();
        linesWithoutStatements();
        places();
        beyondTheLine();
        laterReplacesEarlier();
        stars();
        summaryCards();
        beyondTheCard();
        moreThanAreKept();
        Check.ends("OutputTest");
    }

    private static void detailLines() {
        Tabulator x = Check.machine("field a 1 3; field b 4 5; list b 1; list a 10; list a 38; card 1b.x5; card j; card ...jx;");
        Check.same("34 lineCount", 0, x.lineCount());
        x.run(1);
        Check.same("34 lineCount", 1, x.lineCount());
        Check.same("35 digits, X punches, empty columns", Check.row(2, "5", 10, "11", 38, "11"), Check.line(x, 0));
        x.run(2);
        Check.same("35 line", Check.row(10, "9", 38, "9"), Check.line(x, 1));
        Check.same("35 line", Check.row(1, "9"), Check.line(x, 2));
        Check.same("35 character", '5', x.lineCharacter(0, 2));
        Check.same("35 blank", ' ', x.lineCharacter(0, 1));
        Check.same("35 last position", ' ', x.lineCharacter(0, 40));
        Check.throwsIndex("35 line", () -> x.lineCharacter(-1, 1));
        Check.throwsIndex("35 line", () -> x.lineCharacter(3, 1));
        Check.throwsIndex("35 position", () -> x.lineCharacter(0, 0));
        Check.throwsIndex("35 position", () -> x.lineCharacter(0, 41));
        Check.throwsIndex("35 position", () -> x.lineCharacter(2, -1));
        Check.throwsIndex("36 line", () -> x.lineLevel(-1));
        Check.throwsIndex("36 line", () -> x.lineLevel(3));
        Check.same("36 level", 0, x.lineLevel(2));
        x.finish();
        Check.same("34 no total statements, no total lines", 3, x.lineCount());
    }

    private static void totalLines() {
        Tabulator x = Check.machine("field v 1 2; field k 3 3; counter c 4 v signed; counter d 1 v sub; control 1 k;"
            + "total 1 c 3; total 3 d 1; total 3 c 20; card 151; card 1g1; card 2f2; card 003;");
        x.finish();
        Check.same("34 lineCount", 4, x.lineCount());
        Check.same("35 a negative number", Check.row(6, "1-", 40, "*"), Check.line(x, 0));
        Check.same("35 a negative number", Check.row(5, "26-", 40, "*"), Check.line(x, 1));
        Check.same("36 level", 1, x.lineLevel(0));
        Check.same("36 level", 1, x.lineLevel(2));
        Check.same("36 level", 3, x.lineLevel(3));
        Check.same("35 level 3", Check.row(1, "6-", 22, "26-", 38, "***"), Check.line(x, 3));
        Check.same("35 minus", '-', x.lineCharacter(0, 7));
        Check.same("35 last digit", '1', x.lineCharacter(0, 6));
        Tabulator zero = Check.machine("field v 1 9; counter c 9 v add; total 2 c 1; card .; card 102030405;");
        zero.run(1);
        Check.same("34 no totals yet", 0, zero.lineCount());
        zero.finish();
        Check.same("35 all digits", Check.row(1, "102030405", 39, "**"), Check.line(zero, 0));
        zero.removeCard(1);
        zero.finish();
        Check.same("35 zero", Check.row(9, "0", 39, "**"), Check.line(zero, 0));
        Check.same("36 level", 2, zero.lineLevel(0));
    }

    private static void linesWithoutStatements() {
        Tabulator x = Check.machine("field v 1 1; counter c 1 v add; control 1 v; total 2 c 1; card 1; card 2; card 3;");
        x.finish();
        Check.same("34 only level 2 has a total statement", 1, x.lineCount());
        Check.same("36 its level", 2, x.lineLevel(0));
        Check.same("33 the cycles of level 1 are made", 3, x.groups(1));
        Tabulator none = Check.machine("field v 1 1; control 3 v; card 1; card 2;");
        none.finish();
        Check.same("34 no statements", 0, none.lineCount());
        Check.same("37 no statements", 0, none.summaryCount());
        Tabulator empty = Check.machine("field v 1 1; list v 1; card .;");
        empty.finish();
        Check.same("34 a line of blanks counts", 1, empty.lineCount());
        Check.same("35 a line of blanks", "", Check.line(empty, 0));
    }

    private static void places() {
        Tabulator x = Check.machine("field v 1 9; list v 32; card 123456789;");
        x.finish();
        Check.same("35 up to the last position", Check.row(32, "123456789"), Check.line(x, 0));
        Check.same("35 the last position", '9', x.lineCharacter(0, 40));
    }

    private static void beyondTheLine() {
        Tabulator x = Check.machine("field v 1 9; counter c 5 v signed; list v 40; list v 36; total 1 c 34; total 2 c 35; total 3 c 33;"
            + "card 12345678j;");
        x.finish();
        Check.same("35 what is beyond is left out", Check.row(36, "12345"), Check.line(x, 0));
        Check.same("35 the minus stays", Check.row(34, "56789-*"), Check.line(x, 1));
        Check.same("35 asterisks replace it", Check.row(35, "5678**"), Check.line(x, 2));
        Check.same("35 asterisks stand behind it", Check.row(33, "56789***"), Check.line(x, 3));
        Tabulator next = Check.machine("field v 1 9; list v 39; list v 1; card 123456789; card 5;");
        next.finish();
        Check.same("35 no line runs over into the next one", Check.row(1, "5", 39, "5"), Check.line(next, 1));
    }

    private static void laterReplacesEarlier() {
        Tabulator x = Check.machine("field a 1 3; field b 4 5; counter c 3 b signed; counter d 2 b add; list a 1; list b 2; total 1 c 1; total 1 d 3; "
            + "total 2 d 3; total 2 c 1; card 123.4; card 1231e;");
        x.finish();
        Check.same("35 blanks replace too", "1 4", Check.line(x, 0));
        Check.same("35 digits replace", "114", Check.line(x, 1));
        Check.same("35 a later total replaces", Check.row(2, "118", 40, "*"), Check.line(x, 2));
        Check.same("35 a later total replaces, with its blanks", Check.row(2, "10-", 39, "**"), Check.line(x, 3));
    }

    private static void stars() {
        Tabulator x = Check.machine("field a 1 1; counter c 1 a add; total 1 c 39; total 2 c 39; total 3 c 37; card 1;");
        x.finish();
        Check.same("35 one asterisk", Check.row(39, "1*"), Check.line(x, 0));
        Check.same("35 two asterisks", Check.row(39, "**"), Check.line(x, 1));
        Check.same("35 three asterisks", Check.row(37, "1***"), Check.line(x, 2));
    }

    private static void summaryCards() {
        Tabulator x = Check.machine("field k 1 2; field v 3 4; counter c 3 v signed; control 1 k; clear 1 c;"
            + "punch 1 k 1; punch 1 c 5; punch 3 c 1; card a.12; card 1.2j; card bx.e; card x......4;");
        Check.same("37 summaryCount", 0, x.summaryCount());
        x.run(1);
        Check.same("37 no break yet", 0, x.summaryCount());
        Check.throwsIndex("38 no summary card yet", () -> x.summaryColumn(0, 1));
        x.run(2);
        Check.same("37 one break", 1, x.summaryCount());
        Check.throwsIndex("38 no second summary card yet", () -> x.summaryColumn(1, 1));
        x.finish();
        Check.same("37 summaryCount", 4, x.summaryCount());
        Check.same("38 zeros in front", "a...012", Check.summary(x, 0));
        Check.same("38 a negative number has an X punch", "bx..03d", Check.summary(x, 1));
        Check.same("38 the columns as they are", "x...000", Check.summary(x, 2));
        Check.same("38 level 3 behind the clearing", "000", Check.summary(x, 3));
        Check.same("38 code", 103, x.summaryColumn(1, 7));
        Check.same("38 code", 99, x.summaryColumn(1, 2));
        Check.same("38 code", -1, x.summaryColumn(0, 20));
        Check.throwsIndex("38 card", () -> x.summaryColumn(-1, 1));
        Check.throwsIndex("38 card", () -> x.summaryColumn(4, 1));
        Check.throwsIndex("38 column", () -> x.summaryColumn(0, 0));
        Check.throwsIndex("38 column", () -> x.summaryColumn(0, 21));
        Tabulator later = Check.machine("field k 1 3; counter c 2 k add; punch 2 c 2; punch 2 k 3; punch 1 k 1; punch 1 c 3; card b.3;");
        later.finish();
        Check.same("38 later replaces earlier, with empty columns", ".0b.3", Check.summary(later, 1));
        Check.same("38 later replaces earlier", "b.03", Check.summary(later, 0));
    }

    private static void beyondTheCard() {
        Tabulator x = Check.machine("field k 1 3; counter c 3 k signed; punch 1 k 19; punch 2 c 18; punch 3 c 19; card 12c;");
        x.finish();
        Check.same("38 a field beyond the card", "..................12", Check.summary(x, 0));
        Check.same("38 a counter up to the last column", ".................12c", Check.summary(x, 1));
        Check.same("38 a counter beyond the card", "..................12", Check.summary(x, 2));
        Tabulator two = Check.machine("field k 1 3; control 1 k; punch 1 k 20; punch 1 k 2; card 123; card 4;");
        two.finish();
        Check.same("38 no card runs over into the next one", ".4", Check.summary(two, 1).substring(0, 2));
        Check.same("38 no card runs over into the next one", -1, two.summaryColumn(1, 1));
        Check.same("38 last column", 1, two.summaryColumn(0, 20));
    }

    private static void moreThanAreKept() {
        StringBuilder text = new StringBuilder("field f 1 1; field g 2 3; counter c 2 g add; control 3 f; list g 1;"
            + "total 1 c 4; total 2 c 4; total 3 c 4; clear 3 c; punch 1 c 1; punch 3 g 1;");
        for (int i = 0; i < 40; i++) {
            text.append("card ").append(i % 2).append(10 + i).append(';');
        }
        Tabulator x = Check.machine(text.toString());
        x.run(30);
        Check.same("34 lineCount", 30 + 29 * 3, x.lineCount());
        Check.same("37 summaryCount", 58, x.summaryCount());
        Check.throwsIndex("35 not printed", () -> x.lineLevel(117));
        Check.same("28 finish counts all lines", 160, x.finish());
        Check.same("34 lineCount counts all lines", 160, x.lineCount());
        Check.same("37 summaryCount counts all cards", 80, x.summaryCount());
        Check.same("36 the last line that is kept", 3, x.lineLevel(119));
        Check.same("35 the last line that is kept", '9', x.lineCharacter(119, 5));
        Check.throwsIndex("35 a line that is not kept", () -> x.lineCharacter(120, 1));
        Check.throwsIndex("36 a line that is not kept", () -> x.lineLevel(120));
        Check.same("38 the last card that is kept", "29", Check.summary(x, 39));
        Check.throwsIndex("38 a card that is not kept", () -> x.summaryColumn(40, 1));
        Check.throwsIndex("38 a card that is not kept", () -> x.summaryColumn(79, 1));
        Check.same("36 levels", "01230123", levels(x, 8));
        Check.same("39 linesOfRun counts all lines", 160, x.linesOfRun());
        x.reset();
        Check.throwsIndex("36 no lines after a reset", () -> x.lineLevel(0));
    }

    private static String levels(Tabulator x, int lines) {
        StringBuilder levels = new StringBuilder();
        for (int line = 0; line < lines; line++) {
            levels.append(x.lineLevel(line));
        }
        return levels.toString();
    }
}

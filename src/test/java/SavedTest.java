/** Promises 43 and 44: saved machines. */
public final class SavedTest {
    private static final String TEXT =
        "field k 1 1; field v 2 3; selector s 2 1; counter c 1 v add if s; counter d 3 v signed; control 1 k; list v 1;"
        + "total 1 c 1; punch 1 v 1; card 112; card 205; card 3.6;";

    private SavedTest() {
    }

    public static void main(String[] args) {
        slots();
        everythingIsSaved();
        theSlotKeepsIt();
        laterMachinesAreSaved();
        otherLinesComeBetween();
        finishedMachine();
        bufferAndErrorAreNotSaved();
        Check.ends("SavedTest");
    }

    private static void slots() {
        Tabulator x = new Tabulator();
        Check.throwsIndex("43 slot", () -> x.save(-1));
        Check.throwsIndex("43 slot", () -> x.save(3));
        Check.throwsIndex("44 slot", () -> x.restore(-1));
        Check.throwsIndex("44 slot", () -> x.restore(3));
        for (int slot = 0; slot < 3; slot++) {
            int saved = slot;
            Check.throwsState("44 nothing was saved", () -> x.restore(saved));
        }
        x.save(1);
        Check.throwsState("44 nothing was saved", () -> x.restore(0));
        Check.throwsState("44 nothing was saved", () -> x.restore(2));
        Check.load(x, TEXT);
        Check.throwsState("44 nothing was saved", () -> x.restore(0));
        Check.same("44 nothing changed", 3, x.cardCount());
        x.save(0);
        x.copyCard(0);
        x.save(2);
        Check.same("44 an empty machine", 0, x.restore(1));
        Check.throwsIndex("44 with an empty plugboard", () -> x.counter(0));
        Check.same("44 slot 0", 3, x.restore(0));
        Check.same("44 slot 2", 4, x.restore(2));
        Check.same("44 deck", "112 112 205 3.6", Check.deck(x));
    }

    private static void everythingIsSaved() {
        Tabulator x = Check.machine(TEXT);
        x.run(2);
        x.save(2);
        x.finish();
        x.plugControl(1, 1);
        x.plugControl(2, 0);
        x.plugCounter(0, 0, 2);
        x.plugSelector(0, -1, false);
        x.plugSelector(1, 0, true);
        x.setColumn(0, 1, 109);
        x.sort(1);
        x.run(1);
        Check.load(x, "field z 9 9; card 77;");
        Check.same("44 restore", 3, x.restore(2));
        isSavedMachine(x);
        Check.same("44 it runs on", 1, x.run(40));
        Check.same("44 it runs on", 2, x.groups(1));
        Check.same("44 control", 0, x.plugControl(1, 0));
        Check.same("44 control", -1, x.plugControl(2, -1));
        Check.same("44 selector", 0, x.plugSelector(0, 0, false));
        Check.same("44 selector", -1, x.plugSelector(1, -1, false));
        Check.same("44 field", 1, x.plugCounter(0, 1, 0));
        Check.throwsIndex("44 field", () -> x.mean(2));
    }

    private static void isSavedMachine(Tabulator x) {
        Check.same("44 deck", "112 205 3.6", Check.deck(x));
        Check.same("44 processed", 2, x.processed());
        Check.same("44 counter", 2, x.counter(0));
        Check.same("44 overflows", 1, x.overflows(0));
        Check.same("44 counter", 17, x.counter(1));
        Check.same("44 isSelected", false, x.isSelected(0));
        Check.same("44 groups", 1, x.groups(1));
        Check.same("44 lineCount", 3, x.lineCount());
        Check.same("44 line", "12", Check.line(x, 0));
        Check.same("44 line", Check.row(1, "2", 40, "*"), Check.line(x, 1));
        Check.same("44 lineLevel", 1, x.lineLevel(1));
        Check.same("44 line", "05", Check.line(x, 2));
        Check.same("44 summaryCount", 1, x.summaryCount());
        Check.same("44 summary card", "12", Check.summary(x, 0));
    }

    private static void theSlotKeepsIt() {
        Tabulator x = Check.machine(TEXT);
        x.run(2);
        x.save(0);
        for (int i = 0; i < 2; i++) {
            Check.same("44 restore", 3, x.restore(0));
            isSavedMachine(x);
            x.finish();
            x.setColumn(1, 2, 9);
            x.removeCard(0);
            x.plugControl(1, -1);
        }
    }

    private static void laterMachinesAreSaved() {
        Tabulator x = Check.machine(TEXT);
        x.run(2);
        x.save(0);
        x.restore(0);
        x.run(1);
        x.save(0);
        x.reset();
        x.restore(0);
        Check.same("43 what is saved later replaces it", 3, x.processed());
        x.restore(0);
        Check.same("44 selectors are saved", false, x.isSelected(0));
        x.reset();
        x.run(1);
        x.save(1);
        x.run(1);
        x.restore(1);
        Check.same("44 selectors are saved", true, x.isSelected(0));
        x.restore(0);
        Check.same("44 slots are apart", 3, x.processed());
    }

    /** Lines and summary cards of another run stand in the same places for a while. */
    private static void otherLinesComeBetween() {
        Tabulator x = Check.machine("field f 1 2; counter c 2 f signed; list f 1; total 2 c 1; punch 2 f 1; control 2 f; card 12; card 3d;");
        x.finish();
        x.save(0);
        Check.load(x, "field f 1 2; counter c 3 f add; total 1 c 5; total 3 c 9; punch 1 c 5; control 1 f; card 99; card 88; card 77;");
        x.finish();
        x.save(1);
        x.restore(0);
        int[] levels = {0, 2, 0, 2};
        String[] lines = {"12", Check.row(1, "12", 39, "**"), "33", Check.row(1, "21-", 39, "**")};
        Check.same("44 lineCount", 4, x.lineCount());
        for (int line = 0; line < 4; line++) {
            Check.same("44 level of line " + line, levels[line], x.lineLevel(line));
            Check.same("44 line " + line, lines[line], Check.line(x, line));
        }
        Check.same("44 summaryCount", 2, x.summaryCount());
        Check.same("44 summary card", "12", Check.summary(x, 0));
        Check.same("44 summary card", "3d", Check.summary(x, 1));
        x.restore(1);
        Check.same("44 levels", 3, x.lineLevel(3));
        Check.same("44 levels", 1, x.lineLevel(1));
        Check.same("44 line", Check.row(5, " 99", 40, "*"), Check.line(x, 0));
        Check.same("44 summaryCount", 3, x.summaryCount());
        Check.same("44 summary card", "....264", Check.summary(x, 2));
    }

    private static void finishedMachine() {
        Tabulator x = Check.machine(TEXT);
        x.finish();
        x.save(0);
        x.reset();
        x.save(1);
        x.restore(0);
        Check.throwsState("44 finished", () -> x.run(1));
        Check.throwsState("44 finished", () -> x.finish());
        Check.same("44 summaryCount", 3, x.summaryCount());
        x.restore(1);
        Check.same("44 not finished", 3, x.run(3));
        x.restore(0);
        Check.same("44 restack of restored summary cards", 3, x.restack());
        Check.same("44 deck", "12 05 .6", Check.deck(x));
    }

    private static void bufferAndErrorAreNotSaved() {
        Tabulator x = Check.machine(TEXT);
        x.save(0);
        Check.feedText(x, "card 123456789; card");
        Check.load(x, "");
        Check.same("43 after a legal text", 0, x.errorKind());
        Check.feedText(x, "card 12345678901;   ");
        x.restore(0);
        Check.same("44 the buffer stays", 40, x.feed(0x20202020, 0x20202020, 0x20202020, 0x20202020, 0x20202020));
        Check.same("44 the buffer stays", 1, x.load(40));
    }
}

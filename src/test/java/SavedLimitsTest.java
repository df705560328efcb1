/**
 * Promises 43 and 44: a test for each sentence of the document that names a boundary case.
 * The sentence stands above its test. What is refused is in RefusalTest.
 */
public final class SavedLimitsTest {
    private SavedLimitsTest() {
    }

    public static void main(String[] args) {
        slotsInRange();
        nothingSaved();
        savingChangesNothing();
        everythingIsRestored();
        theSlotKeepsIt();
        slotsAreApart();
        laterSaveReplaces();
        emptyMachine();
        fullMachine();
        changesBehindASave();
        Check.ends("SavedLimitsTest");
    }

    /** "slot: 0 to 2" */
    private static void slotsInRange() {
        Tabulator x = Picture.underWay(1);
        for (int slot = 0; slot <= 2; slot++) {
            x.save(slot);
            Check.same("44 restore(" + slot + ")", 4, x.restore(slot));
        }
        for (int slot : new int[] {-1, 3, Integer.MIN_VALUE, Integer.MAX_VALUE}) {
            Check.throwsIndex("43 save(" + slot + ")", () -> x.save(slot));
            Check.throwsIndex("44 restore(" + slot + ")", () -> x.restore(slot));
        }
    }

    /** "Throws IllegalStateException if nothing was saved there" */
    private static void nothingSaved() {
        for (int saved = 0; saved < 3; saved++) {
            Tabulator x = Picture.underWay(2);
            x.save(saved);
            for (int slot = 0; slot < 3; slot++) {
                int asked = slot;
                if (slot == saved) {
                    Check.same("44 restore(" + slot + ")", 4, x.restore(slot));
                } else {
                    Check.throwsState("44 restore(" + slot + ")", () -> x.restore(asked));
                }
            }
        }
        Tabulator failed = new Tabulator();
        Check.throwsIndex("43 save(3)", () -> failed.save(3));
        Check.throwsState("44 a save that throws saves nothing", () -> failed.restore(2));
    }

    private static void savingChangesNothing() {
        for (int cards = 0; cards <= 5; cards++) {
            Tabulator x = machine(cards);
            x.save(cards % 3);
            Check.same("43 saving changes nothing", Picture.machine(machine(cards)), Picture.machine(x));
        }
    }

    private static Tabulator machine(int cards) {
        return cards == 5 ? Picture.finished() : Picture.underWay(cards);
    }

    /** "Saves the plugboard, the deck and the machine with its lines and summary cards." */
    private static void everythingIsRestored() {
        for (int cards = 0; cards <= 5; cards++) {
            Tabulator first = saved(cards);
            Check.same("44 restore", 4, first.restore(1));
            Check.same("44 the machine behind " + cards + " cards", Picture.machine(machine(cards)), Picture.machine(first));
            Tabulator second = saved(cards);
            second.restore(1);
            Check.same("44 what it does then, behind " + cards + " cards", Picture.rest(machine(cards)), Picture.rest(second));
            Tabulator third = saved(cards);
            third.restore(1);
            Check.same("44 a whole run", Picture.wholeRun(machine(cards)), Picture.wholeRun(third));
            Tabulator fourth = saved(cards);
            fourth.restore(1);
            Check.same("44 the plugboard", Picture.plugs(machine(cards)), Picture.plugs(fourth));
        }
    }

    /** A machine that was saved in slot 1 and has another plugboard, deck, lines and summary cards now. */
    private static Tabulator saved(int cards) {
        Tabulator x = machine(cards);
        x.save(1);
        for (int counter = 0; counter < 3; counter++) {
            x.plugCounter(counter, 0, 0);
            x.plugSelector(counter, 1, counter == 1);
        }
        x.plugControl(2, 0);
        x.plugControl(1, 1);
        x.sort(1);
        x.setColumn(0, 1, 9);
        x.setColumn(3, 20, 109);
        x.finish();
        Check.load(x, "field q 1 1;selector z 1 1;counter r 9 q add;control 3 q;list q 40;list q 1;total 3 r 1;punch 1 q 20;punch 1 r 1;"
            + "card 99999999999999999999;card 1;card jjjjjjjjjjjjjjjjjjjj;card 5;card 6;");
        x.finish();
        return x;
    }

    /** "the slot keeps it" */
    private static void theSlotKeepsIt() {
        String due = Picture.machine(machine(3));
        for (int times = 1; times <= 3; times++) {
            Tabulator x = machine(3);
            x.save(2);
            for (int i = 0; i < times; i++) {
                x.restore(2);
                x.finish();
                x.setColumn(0, 1, 9);
                x.plugControl(1, -1);
                x.removeCard(1);
                x.run(2);
            }
            x.restore(2);
            Check.same("44 restored " + times + " times before", due, Picture.machine(x));
        }
    }

    private static void slotsAreApart() {
        Tabulator x = Picture.underWay(1);
        x.save(0);
        x.run(1);
        x.save(1);
        x.finish();
        x.save(2);
        for (int slot : new int[] {1, 0, 2, 0, 1, 2, 2, 1}) {
            x.restore(slot);
            Check.same("44 processed of slot " + slot, slot == 2 ? 4 : slot + 1, x.processed());
            Check.same("44 lines of slot " + slot, slot == 2 ? 6 : slot + 1, x.lineCount());
        }
    }

    /** "Restores what was saved in a slot": what was saved last */
    private static void laterSaveReplaces() {
        Tabulator x = Picture.underWay(2);
        x.save(0);
        x.run(1);
        x.save(0);
        x.reset();
        x.restore(0);
        Check.same("44 the later machine", Picture.machine(machine(3)), Picture.machine(x));
        x.reset();
        x.save(0);
        x.run(2);
        x.restore(0);
        Check.same("44 the machine that was reset", 0, x.processed() + x.lineCount());
    }

    /** "Returns the number of cards of the deck then.": 0 */
    private static void emptyMachine() {
        Tabulator x = new Tabulator();
        x.save(0);
        Check.load(x, Picture.TEXT);
        x.finish();
        Check.same("44 restore", 0, x.restore(0));
        Check.same("44 as a new object", Picture.machine(new Tabulator()), Picture.machine(x));
        Check.same("44 not finished", 0, x.run(1));
        Check.throwsIndex("44 no field", () -> x.mean(0));
        Check.same("44 no control", -1, x.plugControl(1, -1));
    }

    /** As many cards, lines and summary cards as are kept, and more that are counted. */
    private static void fullMachine() {
        Tabulator x = Check.machine("field v 1 1;counter c 3 v add;control 3 v;list v 1;total 1 c 1;total 2 c 1;total 3 c 1;punch 1 c 1;punch 2 c 1;"
            + "card 1;card 2;".repeat(20));
        x.setColumn(39, 20, 109);
        x.finish();
        x.save(0);
        Check.load(x, "card 5;");
        Check.same("44 restore", 40, x.restore(0));
        Check.same("44 last card", 109, x.column(39, 20));
        Check.same("44 processed", 40, x.processed());
        Check.same("44 lineCount", 160, x.lineCount());
        Check.same("44 the last line that is kept", Check.row(2, "45", 38, "***"), Check.line(x, 119));
        Check.same("44 its level", 3, x.lineLevel(119));
        Check.throwsIndex("44 a line that is not kept", () -> x.lineLevel(120));
        Check.same("44 summaryCount", 80, x.summaryCount());
        Check.same("44 the last summary card that is kept", "030", Check.summary(x, 39));
        Check.throwsIndex("44 a summary card that is not kept", () -> x.summaryColumn(40, 1));
        Check.same("44 groups", 40, x.groups(3));
        Check.throwsState("44 finished", () -> x.run(1));
        Check.same("25 restack", 40, x.restack());
    }

    /** What is done behind a save does not reach the slot, and what is done behind a restore neither. */
    private static void changesBehindASave() {
        Tabulator x = Picture.underWay(3);
        x.save(0);
        x.linesOfRun();
        x.neededWidth(0);
        x.linesDependingOn(0);
        x.crossfootErrors(0, 1, 2);
        x.sort(1);
        x.copyCard(0);
        x.finish();
        x.restack();
        x.restore(0);
        Check.same("44 restored", Picture.machine(Picture.underWay(3)), Picture.machine(x));
    }
}

/**
 * What can be asked of a machine, as a text: two machines are alike if their pictures are.
 * A picture of the machine of TEXT takes less than 400 calls.
 */
final class Picture {
    /** A machine that prints, punches, rolls, clears and overflows, with selectors of both kinds. */
    static final String TEXT = "field k 1 1;field v 2 3;selector s 4 10;selector d 4 10 delayed;"
        + "counter a 2 v signed;counter b 1 v add if s;counter c 3 v sub unless d;control 1 k;control 3 k;"
        + "list v 1;total 1 a 5;roll 1 a b;clear 1 a;punch 1 k 1;punch 1 a 3;card 112;card 125x;card 11b;card 299x;";

    private Picture() {
    }

    /** The machine of TEXT that has processed so many cards, 0 to 4. */
    static Tabulator underWay(int cards) {
        Tabulator x = new Tabulator();
        Check.load(x, TEXT);
        if (cards > 0) {
            x.run(cards);
        }
        return x;
    }

    static Tabulator finished() {
        Tabulator x = underWay(2);
        x.finish();
        return x;
    }

    /** The deck and the machine, with its lines and summary cards; nothing of it is changed. */
    static String machine(Tabulator x) {
        StringBuilder picture = new StringBuilder();
        picture.append("cards ").append(x.cardCount()).append(": ").append(deck(x));
        picture.append("; processed ").append(x.processed());
        for (int level = 1; level <= 3; level++) {
            picture.append("; groups ").append(x.groups(level));
        }
        for (int i = 0; i < 6; i++) {
            int number = i;
            picture.append("; counter ").append(answer(() -> x.counter(number)));
            picture.append(", ").append(answer(() -> x.overflows(number)));
            picture.append("; selector ").append(answer(() -> x.isSelected(number)));
        }
        picture.append("; lines ").append(x.lineCount());
        for (int line = 0; line < x.lineCount() && line < 6; line++) {
            picture.append("; ").append(x.lineLevel(line)).append(Check.line(x, line));
        }
        picture.append("; summary cards ").append(x.summaryCount());
        for (int summary = 0; summary < x.summaryCount() && summary < 3; summary++) {
            picture.append("; ").append(Check.summary(x, summary));
        }
        return picture.toString();
    }

    /** The cards; of many cards the first column alone, as an object is good for 512 calls. */
    private static String deck(Tabulator x) {
        if (x.cardCount() <= 4) {
            return Check.deck(x);
        }
        StringBuilder columns = new StringBuilder();
        for (int card = 0; card < x.cardCount(); card++) {
            columns.append(x.column(card, 1)).append(' ');
        }
        return columns.toString();
    }

    /** The plugs that can be changed, told by changing them. */
    static String plugs(Tabulator x) {
        StringBuilder picture = new StringBuilder();
        for (int i = 0; i < 6; i++) {
            int number = i;
            picture.append("; counter ").append(answer(() -> x.plugCounter(number, 0, 0)));
            picture.append(", ").append(answer(() -> x.plugSelector(number, Tabulator.NONE, false)));
        }
        for (int level = 1; level <= 3; level++) {
            picture.append("; control ").append(x.plugControl(level, Tabulator.NONE));
        }
        return picture.toString();
    }

    /** Everything that a whole run makes, with the plugboard and the deck of now. */
    static String wholeRun(Tabulator x) {
        x.reset();
        return "finish " + x.finish() + "; " + machine(x);
    }

    /** What the machine makes of the rest of the deck. */
    static String rest(Tabulator x) {
        String finish = answer(x::finish);
        return "finish " + finish + "; " + machine(x);
    }

    /** The latest load and the bytes in the buffer, told by loading them. */
    static String text(Tabulator x) {
        String error = "error " + x.errorKind() + " at " + x.errorPosition();
        int bytes = Check.feedText(x, "card 9;             ");
        return error + "; buffer " + bytes + "; load " + answer(() -> x.load(bytes < 0 ? 1100 : bytes)) + ": " + Check.deck(x);
    }

    /** The saved machines, in short, told by restoring them. */
    static String slots(Tabulator x) {
        StringBuilder picture = new StringBuilder();
        for (int i = 0; i < 3; i++) {
            int slot = i;
            picture.append("; slot ").append(answer(() -> x.restore(slot))).append(": ").append(x.cardCount());
            picture.append(", ").append(x.processed()).append(", ").append(x.lineCount()).append(", ").append(answer(() -> x.counter(0)));
            picture.append(", ").append(answer(() -> x.fieldValue(0, 1)));
        }
        return picture.toString();
    }

    private static String answer(java.util.function.Supplier<Object> call) {
        try {
            return String.valueOf(call.get());
        } catch (RuntimeException e) {
            return e.getClass().getSimpleName();
        }
    }
}

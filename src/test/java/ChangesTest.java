/** Promises 18 to 25: changes of the deck and of the plugboard. */
public final class ChangesTest {
    private static final String TEXT =
        "field v 1 2; field w 3 3; selector s 4 10; selector t 4 1; counter a 4 v add; counter b 3 w signed if s;"
        + "control 2 w; list v 1; total 1 a 1; punch 1 a 1; punch 2 w 1;"
        + "card 301; card 20bx; card 1.2b; card 2.31;";

    private ChangesTest() {
    }

    public static void main(String[] args) {
        sort();
        sortOfManyCards();
        removeCard();
        copyCard();
        copyCardOfAFullDeck();
        setColumn();
        plugCounter();
        plugSelector();
        plugControl();
        restack();
        Check.ends("ChangesTest");
    }

    private static void sort() {
        Tabulator x = started();
        Check.same("18 sort", 3, x.sort(0));
        Check.same("18 deck", "1.2b 20bx 2.31 301", Check.deck(x));
        isReset("18", x);
        x.run(1);
        Check.same("18 sort of a sorted deck", 0, x.sort(0));
        Check.same("18 deck", "1.2b 20bx 2.31 301", Check.deck(x));
        isReset("18", x);
        Check.same("18 sort by a value that is not signed", 4, x.sort(1));
        Check.same("18 deck", "20bx 301 1.2b 2.31", Check.deck(x));
        Check.throwsIndex("18 field", () -> x.sort(-1));
        Check.throwsIndex("18 field", () -> x.sort(2));
        Tabulator y = Check.machine("field v 1 1; card 32; card 21; card 22; card 3; card 1;");
        Check.same("18 cards between keep their numbers", 3, y.sort(0));
        Check.same("18 deck", "1 21 22 32 3", Check.deck(y));
        Tabulator whole = Check.machine("field v 1 1; card 20123456789012345678; card 1.xabcdefghijxxxxxxx;");
        Check.same("18 whole cards", 2, whole.sort(0));
        Check.same("18 whole cards", "1.xabcdefghijxxxxxxx 20123456789012345678", Check.deck(whole));
        Tabulator equal = Check.machine("field v 1 1; card 1; card 1; card 0;");
        Check.same("18 equal cards count too", 3, equal.sort(0));
        Check.same("18 sort of an empty deck", 0, Check.machine("field v 1 1;").sort(0));
        Tabulator failed = started();
        Check.throwsIndex("18 field", () -> failed.sort(2));
        isUntouched("18", failed);
    }

    private static void sortOfManyCards() {
        StringBuilder text = new StringBuilder("field v 1 2; field n 3 4;");
        for (int i = 0; i < 40; i++) {
            text.append("card ").append(10 + 39 - i).append(10 + i).append(';');
        }
        Tabulator x = Check.machine(text.toString());
        Check.same("18 sort of a reversed deck", 40, x.sort(0));
        Check.same("18 in sequence", -1, x.firstOutOfSequence(0));
        Check.same("18 first card", "1049", Check.card(x, 0));
        Check.same("18 last card", "4910", Check.card(x, 39));
        Check.same("18 sort back", 40, x.sort(1));
        Check.same("18 first card", "4910", Check.card(x, 0));
    }

    private static void removeCard() {
        Tabulator x = started();
        Check.same("19 removeCard", 3, x.removeCard(1));
        Check.same("19 deck", "301 1.2b 2.31", Check.deck(x));
        isReset("19", x);
        Tabulator whole = Check.machine("card 1; card 20123456789012345678; card 3..................x;");
        whole.removeCard(0);
        Check.same("19 whole cards", "20123456789012345678 3..................x", Check.deck(whole));
        whole.copyCard(0);
        Check.same("20 whole cards", "20123456789012345678 20123456789012345678 3..................x", Check.deck(whole));
        Check.same("19 removeCard", 2, x.removeCard(2));
        Check.same("19 removeCard", 1, x.removeCard(0));
        Check.same("19 deck", "1.2b", Check.deck(x));
        Check.throwsIndex("19 card", () -> x.removeCard(1));
        Check.throwsIndex("19 card", () -> x.removeCard(-1));
        Check.same("19 removeCard", 0, x.removeCard(0));
        Check.throwsIndex("19 card", () -> x.removeCard(0));
        Tabulator failed = started();
        Check.throwsIndex("19 card", () -> failed.removeCard(4));
        isUntouched("19", failed);
    }

    private static void copyCard() {
        Tabulator x = started();
        Check.same("20 copyCard", 5, x.copyCard(1));
        Check.same("20 deck", "301 20bx 20bx 1.2b 2.31", Check.deck(x));
        isReset("20", x);
        Check.same("20 copyCard", 6, x.copyCard(5 - 1));
        Check.same("20 deck", "301 20bx 20bx 1.2b 2.31 2.31", Check.deck(x));
        Tabulator first = Check.machine(TEXT);
        Check.same("20 copyCard", 5, first.copyCard(0));
        Check.same("20 deck", "301 301 20bx 1.2b 2.31", Check.deck(first));
        first.setColumn(1, 1, 9);
        Check.same("20 the copy is another card", "301", Check.card(first, 0));
        Tabulator failed = started();
        Check.throwsIndex("20 card", () -> failed.copyCard(4));
        isUntouched("20", failed);
    }

    private static void copyCardOfAFullDeck() {
        Tabulator x = started();
        for (int cards = 5; cards <= 40; cards++) {
            Check.same("20 copyCard", cards, x.copyCard(cards - 2));
        }
        Check.throwsState("20 full deck", () -> x.copyCard(0));
        Check.throwsIndex("20 card before state", () -> x.copyCard(40));
        Check.throwsIndex("20 card before state", () -> x.copyCard(-1));
        Check.same("20 cardCount", 40, x.cardCount());
        x.run(3);
        Check.throwsState("20 full deck", () -> x.copyCard(39));
        Check.same("20 no reset", 3, x.processed());
    }

    private static void setColumn() {
        Tabulator x = started();
        Check.same("21 setColumn", 3, x.setColumn(0, 1, 9));
        Check.same("21 deck", "901 20bx 1.2b 2.31", Check.deck(x));
        isReset("21", x);
        x.run(1);
        Check.same("21 the same code", 9, x.setColumn(0, 1, 9));
        isReset("21", x);
        int[] codes = {-1, 0, 9, 99, 100, 109};
        int previous = 99;
        for (int code : codes) {
            Check.same("21 setColumn", previous, x.setColumn(1, 4, code));
            Check.same("21 column", code, x.column(1, 4));
            previous = code;
        }
        Check.same("21 the last column", -1, x.setColumn(3, 20, 105));
        Check.same("21 column", 105, x.column(3, 20));
        for (int code : new int[] {-2, 10, 98, 110, -100, 50, Integer.MAX_VALUE, Integer.MIN_VALUE}) {
            Check.throwsArgument("21 code " + code, () -> x.setColumn(0, 1, code));
        }
        Check.throwsIndex("21 card", () -> x.setColumn(-1, 1, 1));
        Check.throwsIndex("21 card", () -> x.setColumn(4, 1, 10));
        Check.throwsIndex("21 column", () -> x.setColumn(0, 0, 10));
        Check.throwsIndex("21 column", () -> x.setColumn(0, 21, 1));
        Check.same("21 nothing changed", "901", Check.card(x, 0));
        Tabulator failed = started();
        Check.throwsArgument("21 code", () -> failed.setColumn(0, 1, 10));
        isUntouched("21", failed);
    }

    private static void plugCounter() {
        Tabulator x = started();
        Check.same("22 plugCounter", 0, x.plugCounter(0, 1, 1));
        isReset("22", x);
        x.run(4);
        Check.same("22 sub", -1 - 1 - 2 - 3, x.counter(0));
        Check.same("22 plugCounter", 1, x.plugCounter(0, 1, 2));
        x.run(4);
        Check.same("22 signed", 1 - 1 + 2 + 3, x.counter(0));
        Check.same("22 plugCounter", 1, x.plugCounter(0, 0, 0));
        x.run(4);
        Check.same("22 add", 30 + 20 + 10 + 20, x.counter(0));
        Check.same("22 the other counter", 1, x.plugCounter(1, 0, 0));
        x.run(4);
        Check.same("22 its selector stays", 20 + 10, x.counter(1));
        Check.throwsIndex("22 counter", () -> x.plugCounter(-1, 0, 0));
        Check.throwsIndex("22 counter", () -> x.plugCounter(2, 0, 0));
        Check.throwsIndex("22 field", () -> x.plugCounter(0, -1, 0));
        Check.throwsIndex("22 field", () -> x.plugCounter(0, 2, 3));
        Check.throwsArgument("22 mode", () -> x.plugCounter(0, 0, -1));
        Check.throwsArgument("22 mode", () -> x.plugCounter(0, 0, 3));
        Tabulator failed = started();
        Check.throwsArgument("22 mode", () -> failed.plugCounter(0, 1, 3));
        isUntouched("22", failed);
        Check.same("22 nothing changed", 0, failed.plugCounter(0, 0, 0));
    }

    private static void plugSelector() {
        Tabulator x = started();
        Check.same("23 plugSelector", -1, x.plugSelector(0, 1, false));
        isReset("23", x);
        x.run(4);
        Check.same("23 if", 10 + 20, x.counter(0));
        Check.same("23 plugSelector", 1, x.plugSelector(0, 1, true));
        x.run(4);
        Check.same("23 unless", 30 + 20, x.counter(0));
        Check.same("23 plugSelector", 1, x.plugSelector(0, -1, true));
        x.run(4);
        Check.same("23 no selector", 80, x.counter(0));
        Check.same("23 plugSelector", -1, x.plugSelector(0, -1, false));
        Check.same("23 the selector of the text", 0, x.plugSelector(1, 0, true));
        x.run(4);
        Check.same("23 unless", 1 + 3, x.counter(1));
        Check.throwsIndex("23 counter", () -> x.plugSelector(-1, 0, false));
        Check.throwsIndex("23 counter", () -> x.plugSelector(2, -1, false));
        Check.throwsIndex("23 selector", () -> x.plugSelector(0, -2, false));
        Check.throwsIndex("23 selector", () -> x.plugSelector(0, 2, true));
        Tabulator failed = started();
        Check.throwsIndex("23 selector", () -> failed.plugSelector(0, 2, true));
        isUntouched("23", failed);
    }

    private static void plugControl() {
        Tabulator x = started();
        Check.same("24 plugControl", -1, x.plugControl(1, 0));
        isReset("24", x);
        Check.same("24 breakLevel", 1, x.breakLevel(1));
        Check.same("24 plugControl", 0, x.plugControl(1, -1));
        Check.same("24 breakLevel", 0, x.breakLevel(1));
        Check.same("24 the control of the text", 1, x.plugControl(2, -1));
        Check.same("24 breakLevel", 0, x.breakLevel(2));
        Check.same("24 plugControl", -1, x.plugControl(3, 1));
        Check.same("24 breakLevel", 3, x.breakLevel(2));
        Check.throwsIndex("24 field", () -> x.plugControl(1, -2));
        Check.throwsIndex("24 field", () -> x.plugControl(1, 2));
        Check.throwsIndex("24 field before level", () -> x.plugControl(0, 2));
        Check.throwsArgument("24 level", () -> x.plugControl(0, 0));
        Check.throwsArgument("24 level", () -> x.plugControl(4, -1));
        Tabulator failed = started();
        Check.throwsArgument("24 level", () -> failed.plugControl(4, 0));
        isUntouched("24", failed);
    }

    private static void restack() {
        Tabulator x = started();
        x.finish();
        Check.same("25 summaryCount", 6, x.summaryCount());
        Check.same("25 restack", 6, x.restack());
        Check.same("25 deck", "0050 b 0060 2 0080 3", Check.deck(x));
        isReset("25", x);
        Check.throwsState("25 no summary card is kept", () -> x.restack());
        x.run(1);
        Check.throwsState("25 no summary card is kept", () -> x.restack());
        Check.same("25 nothing changed", 1, x.processed());
        StringBuilder text = new StringBuilder("field f 1 1; field g 2 3; control 3 f; punch 1 g 1; punch 2 g 1; punch 3 g 1;");
        for (int i = 0; i < 20; i++) {
            text.append("card ").append(i % 2).append(10 + i).append(';');
        }
        Tabulator many = Check.machine(text.toString());
        many.finish();
        Check.same("25 summaryCount", 60, many.summaryCount());
        Check.same("25 the cards that are kept", 40, many.restack());
        Check.same("25 last card", "23", Check.card(many, 39));
    }

    /** A machine that has processed three cards. */
    private static Tabulator started() {
        Tabulator x = Check.machine(TEXT);
        x.run(3);
        isUntouched("", x);
        return x;
    }

    private static void isUntouched(String promise, Tabulator x) {
        Check.same(promise + " deck", "301 20bx 1.2b 2.31", Check.deck(x));
        Check.same(promise + " processed", 3, x.processed());
        Check.same(promise + " counter", 60, x.counter(0));
        Check.same(promise + " counter", 1, x.counter(1));
        Check.same(promise + " lineCount", 4, x.lineCount());
        Check.same(promise + " summaryCount", 2, x.summaryCount());
        Check.same(promise + " groups", 1, x.groups(1));
        Check.same(promise + " isSelected", true, x.isSelected(0));
    }

    private static void isReset(String promise, Tabulator x) {
        Check.same(promise + " processed", 0, x.processed());
        Check.same(promise + " counter", 0, x.counter(0));
        Check.same(promise + " counter", 0, x.counter(1));
        Check.same(promise + " lineCount", 0, x.lineCount());
        Check.same(promise + " summaryCount", 0, x.summaryCount());
        Check.same(promise + " groups", 0, x.groups(1));
        Check.same(promise + " isSelected", false, x.isSelected(0));
    }
}

import java.nio.charset.StandardCharsets;

/** What the tests share: comparing answers, feeding texts, reading lines and cards back. */
final class Check {
    /** A call whose exception is looked at. */
    interface Call {
        void make();
    }

    private static int wrong = 0;

    private Check() {
    }

    static void same(String what, Object due, Object got) {
        if (!due.equals(got)) {
            wrong++;
            System.out.println(what + ": answered " + got + ", due is " + due);
        }
    }

    static void throwsIndex(String what, Call call) {
        same(what, "IndexOutOfBoundsException", thrownBy(call));
    }

    static void throwsArgument(String what, Call call) {
        same(what, "IllegalArgumentException", thrownBy(call));
    }

    static void throwsState(String what, Call call) {
        same(what, "IllegalStateException", thrownBy(call));
    }

    static void ends(String name) {
        System.out.println(name + ": " + (wrong == 0 ? "all answers are as due" : wrong + " answers are not as due"));
        if (wrong != 0) {
            System.exit(1);
        }
    }

    private static String thrownBy(Call call) {
        try {
            call.make();
            return "nothing";
        } catch (RuntimeException e) {
            return e.getClass().getSimpleName();
        }
    }

    /** Feeds the text, with zero bytes behind it up to a multiple of twenty. */
    static int feedText(Tabulator machine, String text) {
        byte[] bytes = text.getBytes(StandardCharsets.ISO_8859_1);
        int size = Tabulator.NONE;
        for (int start = 0; start < bytes.length; start += 20) {
            int[] words = new int[5];
            for (int i = 0; i < 20; i++) {
                int value = start + i < bytes.length ? bytes[start + i] & 255 : 0;
                words[i / 4] = words[i / 4] << 8 | value;
            }
            size = machine.feed(words[0], words[1], words[2], words[3], words[4]);
        }
        return size;
    }

    static int load(Tabulator machine, String text) {
        feedText(machine, text);
        return machine.load(text.length());
    }

    /** A machine with this text, which has to be legal. */
    static Tabulator machine(String text) {
        Tabulator machine = new Tabulator();
        load(machine, text);
        same("errorKind of " + text, 0, machine.errorKind());
        return machine;
    }

    /** A legal text; what it holds is looked at by the caller. */
    static Tabulator legal(int cards, String text) {
        Tabulator x = new Tabulator();
        same("3 load of " + text, cards, load(x, text));
        same("4 errorKind of " + text, 0, x.errorKind());
        same("5 errorPosition of " + text, -1, x.errorPosition());
        return x;
    }

    static void bad(int kind, int position, String text) {
        Tabulator x = new Tabulator();
        same("3 load of " + text, -3, load(x, text));
        same("4 errorKind of " + text, kind, x.errorKind());
        same("5 errorPosition of " + text, position, x.errorPosition());
    }

    /** A text with a sign ^ before the token at which the error is. */
    static void bad(int kind, String marked) {
        int position = marked.indexOf('^');
        bad(kind, position, marked.substring(0, position) + marked.substring(position + 1));
    }

    /** The statement so many times, with a letter more in the alphabet for each sign #. */
    static String repeated(String statement, int times) {
        StringBuilder text = new StringBuilder();
        for (int i = 0; i < times; i++) {
            text.append(statement.replace('#', (char) ('a' + i)));
        }
        return text.toString();
    }

    /** A line without the blanks at its end. */
    static String line(Tabulator machine, int line) {
        StringBuilder signs = new StringBuilder();
        for (int position = 1; position <= 40; position++) {
            signs.append(machine.lineCharacter(line, position));
        }
        return signs.toString().stripTrailing();
    }

    /** A line, told by the signs that stand from a position on, without the blanks at its end. */
    static String row(Object... positionsAndSigns) {
        StringBuilder signs = new StringBuilder(" ".repeat(40));
        for (int i = 0; i < positionsAndSigns.length; i += 2) {
            int start = (Integer) positionsAndSigns[i] - 1;
            String part = (String) positionsAndSigns[i + 1];
            signs.replace(start, start + part.length(), part);
        }
        return signs.toString().stripTrailing();
    }

    /** A card of the deck, in the signs of a card token, without the empty columns at its end. */
    static String card(Tabulator machine, int card) {
        StringBuilder signs = new StringBuilder();
        for (int column = 1; column <= 20; column++) {
            signs.append(sign(machine.column(card, column)));
        }
        return withoutPoints(signs.toString());
    }

    static String deck(Tabulator machine) {
        StringBuilder cards = new StringBuilder();
        for (int card = 0; card < machine.cardCount(); card++) {
            cards.append(card == 0 ? "" : " ").append(card(machine, card));
        }
        return cards.toString();
    }

    static String summary(Tabulator machine, int summary) {
        StringBuilder signs = new StringBuilder();
        for (int column = 1; column <= 20; column++) {
            signs.append(sign(machine.summaryColumn(summary, column)));
        }
        return withoutPoints(signs.toString());
    }

    private static char sign(int code) {
        if (code == -1) {
            return '.';
        }
        if (code == 99) {
            return 'x';
        }
        return (char) (code >= 100 ? 'a' + code - 100 : '0' + code);
    }

    private static String withoutPoints(String signs) {
        int end = signs.length();
        while (end > 0 && signs.charAt(end - 1) == '.') {
            end--;
        }
        return signs.substring(0, end);
    }
}

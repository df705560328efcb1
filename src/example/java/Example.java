import java.nio.ByteBuffer;
import java.nio.charset.StandardCharsets;
import java.util.Arrays;

/** The example of README.md: feeds a text, loads it, runs the deck and prints the lines. */
public final class Example {
    static final String TEXT = """
        field account 1 3;
        field amount 4 7;
        selector never 20 10;
        counter sum 5 amount signed;
        counter all 6 amount add if never;
        control 1 account;
        list account 1;
        list amount 5;
        roll 1 sum all;
        total 1 sum 12;
        total 3 all 11;
        punch 1 account 1;
        punch 1 sum 4;
        clear 1 sum;
        card 1010250;
        card 101009e;
        card 1020001;
        card 1020043;
        """;

    private Example() {
    }

    public static void main(String[] args) {
        Tabulator machine = new Tabulator();
        if (load(machine, TEXT) == Tabulator.BAD_TEXT) {
            System.out.println("error " + machine.errorKind() + " at byte " + machine.errorPosition());
            return;
        }
        int lines = machine.finish();
        for (int line = 0; line < lines && line < 120; line++) {
            System.out.println(lineOf(machine, line));
        }
    }

    /** Feeds the whole text to an empty buffer, with zero bytes behind it, and reads it. */
    static int load(Tabulator machine, String text) {
        byte[] bytes = text.getBytes(StandardCharsets.ISO_8859_1);
        int feeds = (bytes.length + 19) / 20;
        ByteBuffer rest = ByteBuffer.wrap(Arrays.copyOf(bytes, feeds * 20));
        for (int i = 0; i < feeds; i++) {
            int size = machine.feed(rest.getInt(), rest.getInt(), rest.getInt(), rest.getInt(), rest.getInt());
            if (size == Tabulator.FULL) {
                throw new IllegalArgumentException("the text has more than 1100 bytes");
            }
        }
        return machine.load(bytes.length);
    }

    static String lineOf(Tabulator machine, int line) {
        StringBuilder signs = new StringBuilder();
        for (int position = 1; position <= 40; position++) {
            signs.append(machine.lineCharacter(line, position));
        }
        return signs.toString().stripTrailing();
    }
}

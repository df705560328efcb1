import java.util.ArrayList;
import java.util.List;
import java.util.Random;

/** Makes texts: legal ones, and such ones with a few bytes or tokens changed. */
final class RandomText {
    private static final String[] WORDS = {"field", "selector", "counter", "control", "list", "total", "roll", "clear", "punch",
        "card", "delayed", "add", "sub", "signed", "if", "unless", "a", "fa", "sa", "ca", "cards", "abcdefgh", "abcdefghi",
        "0", "1", "2", "3", "4", "9", "10", "11", "20", "21", "40", "41", "99", "100", "007", ";", ";;", "x", "1x.a", ".", "?", "A", "\n"};

    private final Random random;
    private final List<String> tokens = new ArrayList<>();
    private final List<String> fields = new ArrayList<>();
    private final List<String> selectors = new ArrayList<>();
    private final List<String> counters = new ArrayList<>();
    private final String digits;
    private final int cardLength;

    RandomText(Random random) {
        this.random = random;
        digits = new String[] {"0123456789", "12", "0123456789.xabcdefghij", "1112b", "019", "9j99", "01.xa"}[random.nextInt(7)];
        cardLength = random.nextInt(4) == 0 ? 20 : 2 + random.nextInt(8);
    }

    private int upTo(int greatest) {
        return random.nextInt(greatest + 1);
    }

    private String from(List<String> names) {
        return names.get(random.nextInt(names.size()));
    }

    private String number(int least, int greatest) {
        int number = least + random.nextInt(greatest - least + 1);
        return number < 10 && random.nextInt(20) == 0 ? "0" + number : "" + number;
    }

    private int column() {
        return 1 + random.nextInt(random.nextInt(5) == 0 ? 20 : cardLength);
    }

    private void add(String... parts) {
        tokens.addAll(List.of(parts));
    }

    String legal() {
        makeTokens();
        return joined();
    }

    private void makeTokens() {
        boolean small = random.nextInt(3) == 0;
        for (int i = upTo(small ? 2 : 8); i > 0; i--) {
            int column = column();
            fields.add("f" + (char) ('a' + fields.size()));
            add("field", fields.get(fields.size() - 1), "" + column, "" + (column + upTo(Math.min(random.nextInt(3) == 0 ? 8 : 2, 20 - column))), ";");
        }
        for (int i = upTo(small ? 1 : 4); i > 0; i--) {
            selectors.add("s" + (char) ('a' + selectors.size()));
            add("selector", selectors.get(selectors.size() - 1), "" + column(), "" + upTo(10));
            add(random.nextInt(3) == 0 ? new String[] {"delayed", ";"} : new String[] {";"});
        }
        for (int i = upTo(small ? 2 : 6); i > 0 && !fields.isEmpty(); i--) {
            counters.add("c" + (char) ('a' + counters.size()));
            add("counter", counters.get(counters.size() - 1), number(1, random.nextInt(3) == 0 ? 9 : 4), from(fields),
                new String[] {"add", "sub", "signed"}[upTo(2)]);
            if (!selectors.isEmpty() && random.nextBoolean()) {
                add(random.nextBoolean() ? "if" : "unless", from(selectors));
            }
            add(";");
        }
        for (int level = 1; level <= 3 && !fields.isEmpty(); level++) {
            if (random.nextInt(3) > 0) {
                add("control", "" + level, from(fields), ";");
            }
        }
        for (int i = upTo(small ? 4 : 14); i > 0 && !fields.isEmpty(); i--) {
            step(random.nextInt(5));
        }
        cards();
    }

    private void step(int kind) {
        if (kind == 0) {
            add("list", from(fields), number(1, 40), ";");
        } else if (kind == 4 && (counters.isEmpty() || random.nextBoolean())) {
            add("punch", number(1, 3), from(fields), number(1, 20), ";");
        } else if (!counters.isEmpty()) {
            switch (kind) {
                case 1 -> add("total", number(1, 3), from(counters), number(1, 40), ";");
                case 2 -> add("roll", number(1, 3), from(counters), from(counters), ";");
                case 3 -> add("clear", number(1, 3), from(counters), ";");
                default -> add("punch", number(1, 3), from(counters), number(1, 20), ";");
            }
        }
    }

    private void cards() {
        int length = joined().length() + tokens.size();
        int cards = new int[] {0, 1, 2, 5, 10, 40}[upTo(5)];
        String previous = "";
        for (int i = 0; i < cards && length < 1040; i++) {
            String card = previous;
            if (i == 0 || random.nextInt(4) > 0) {
                StringBuilder signs = new StringBuilder();
                for (int column = 0; column < cardLength; column++) {
                    boolean same = column < previous.length() && random.nextInt(3) > 0;
                    signs.append(same ? previous.charAt(column) : digits.charAt(random.nextInt(digits.length())));
                }
                card = signs.toString();
            }
            add("card", card, ";");
            previous = card;
            length += card.length() + 8;
        }
    }

    /** The tokens with as many blanks between them as they need, or some more. */
    private String joined() {
        StringBuilder text = new StringBuilder();
        for (String token : tokens) {
            boolean tight = text.length() == 0 || text.charAt(text.length() - 1) == ';' || token.equals(";");
            if (!tight || random.nextInt(30) == 0) {
                text.append(random.nextInt(10) == 0 ? "\n" : " ");
            }
            text.append(token);
        }
        return text.length() > 1100 ? text.substring(0, 1100) : text.toString();
    }

    String damaged() {
        makeTokens();
        for (int i = random.nextInt(3); i > 0 && !tokens.isEmpty(); i--) {
            damageTokens();
        }
        StringBuilder text = new StringBuilder(joined());
        for (int i = random.nextInt(3); i > 0 && text.length() > 0; i--) {
            damageSigns(text);
        }
        if (random.nextInt(5) == 0) {
            text.setLength(random.nextInt(text.length() + 1));
        }
        return text.length() > 1100 ? text.substring(0, 1100) : text.toString();
    }

    private void damageTokens() {
        int place = random.nextInt(tokens.size());
        switch (random.nextInt(5)) {
            case 0 -> tokens.set(place, WORDS[random.nextInt(WORDS.length)]);
            case 1 -> tokens.remove(place);
            case 2 -> tokens.add(place, WORDS[random.nextInt(WORDS.length)]);
            case 3 -> tokens.set(place, tokens.get(random.nextInt(tokens.size())));
            default -> repeatStatement(place);
        }
    }

    private void repeatStatement(int place) {
        int first = place;
        while (first > 0 && !tokens.get(first - 1).equals(";")) {
            first--;
        }
        int end = first;
        while (end < tokens.size() && !tokens.get(end).equals(";")) {
            end++;
        }
        List<String> statement = new ArrayList<>(tokens.subList(first, Math.min(end + 1, tokens.size())));
        for (int i = random.nextInt(13); i > 0; i--) {
            tokens.addAll(first, statement);
        }
    }

    private void damageSigns(StringBuilder text) {
        int place = random.nextInt(text.length());
        String signs = " ;;;\n0123456789abcdefghijklmnopqrstuvwxyz.x?A\t\u00ff";
        char sign = signs.charAt(random.nextInt(signs.length()));
        switch (random.nextInt(3)) {
            case 0 -> text.setCharAt(place, sign);
            case 1 -> text.insert(place, sign);
            default -> text.deleteCharAt(place);
        }
    }
}

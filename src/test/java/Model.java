import java.util.ArrayList;
import java.util.Arrays;
import java.util.HashMap;
import java.util.HashSet;
import java.util.List;
import java.util.Map;
import java.util.Set;

/** The document once more, written with the whole Java library and no care for speed: what RandomRunsTest compares with. */
final class Model {
    static final class Field {
        int from;
        int to;
    }

    static final class Selector {
        int column;
        int punch;
        boolean delayed;
    }

    static final class Counter {
        int width;
        int field;
        int mode;
        int selector = -1;
        boolean unless;
    }

    /** A list, total, roll, clear or punch statement: its words and numbers as they stand in the text. */
    static final class Step {
        final String kind;
        final int level;
        final String first;
        final String second;
        final int place;

        Step(String kind, int level, String first, String second, int place) {
            this.kind = kind;
            this.level = level;
            this.first = first;
            this.second = second;
            this.place = place;
        }
    }

    /** Plugboard, deck and machine; a copy shares nothing that changes. */
    static final class State {
        List<Field> fields = new ArrayList<>();
        List<Selector> selectors = new ArrayList<>();
        List<Counter> counters = new ArrayList<>();
        List<Step> steps = new ArrayList<>();
        Map<String, Integer> numbersOfNames = new HashMap<>();
        Map<String, String> kindsOfNames = new HashMap<>();
        int[] controls = {-1, -1, -1, -1};
        List<String> deck = new ArrayList<>();

        long[] sums = new long[6];
        int[] overflows = new int[6];
        boolean[] on = new boolean[6];
        int[] groups = new int[4];
        List<String> lines = new ArrayList<>();
        List<String> summaries = new ArrayList<>();
        int processed;
        boolean finished;

        State copy() {
            State other = new State();
            other.fields = fields;
            other.selectors = selectors;
            other.counters = new ArrayList<>();
            for (Counter counter : counters) {
                Counter twin = new Counter();
                twin.width = counter.width;
                twin.field = counter.field;
                twin.mode = counter.mode;
                twin.selector = counter.selector;
                twin.unless = counter.unless;
                other.counters.add(twin);
            }
            other.steps = steps;
            other.numbersOfNames = numbersOfNames;
            other.kindsOfNames = kindsOfNames;
            other.controls = controls.clone();
            other.deck = new ArrayList<>(deck);
            other.sums = sums.clone();
            other.overflows = overflows.clone();
            other.on = on.clone();
            other.groups = groups.clone();
            other.lines = new ArrayList<>(lines);
            other.summaries = new ArrayList<>(summaries);
            other.processed = processed;
            other.finished = finished;
            return other;
        }

        void reset() {
            Arrays.fill(sums, 0);
            Arrays.fill(overflows, 0);
            Arrays.fill(on, false);
            Arrays.fill(groups, 0);
            lines.clear();
            summaries.clear();
            processed = 0;
            finished = false;
        }

        String columns(int card, int field) {
            return deck.get(card).substring(fields.get(field).from - 1, fields.get(field).to);
        }

        static String digits(String columns) {
            StringBuilder digits = new StringBuilder();
            for (char sign : columns.toCharArray()) {
                digits.append(Character.isDigit(sign) ? sign : sign >= 'a' && sign <= 'j' ? (char) (sign - 'a' + '0') : ' ');
            }
            return digits.toString();
        }

        long value(int card, int field) {
            return Long.parseLong(digits(columns(card, field)).replace(' ', '0'));
        }

        long signed(int card, int field) {
            String columns = columns(card, field);
            return "abcdefghijx".indexOf(columns.charAt(columns.length() - 1)) >= 0 ? -value(card, field) : value(card, field);
        }

        int breakLevel(int card) {
            int highest = 0;
            for (int level = 1; card > 0 && level <= 3; level++) {
                if (controls[level] >= 0 && value(card, controls[level]) != value(card - 1, controls[level])) {
                    highest = level;
                }
            }
            return highest;
        }

        int groupOf(int card, int level) {
            return card == 0 ? 0 : groupOf(card - 1, level) + (breakLevel(card) >= level ? 1 : 0);
        }

        int groupCount(int level) {
            return deck.isEmpty() ? 0 : groupOf(deck.size() - 1, level) + 1;
        }

        long groupSum(int field, int level, int group) {
            long sum = 0;
            for (int card = 0; card < deck.size(); card++) {
                sum += groupOf(card, level) == group ? signed(card, field) : 0;
            }
            return sum;
        }

        void add(int counter, long amount) {
            long sum = sums[counter] + amount;
            String digits = Long.toString(Math.abs(sum));
            int width = counters.get(counter).width;
            if (digits.length() > width) {
                overflows[counter]++;
                digits = digits.substring(digits.length() - width);
            }
            sums[counter] = Long.signum(sum) * Long.parseLong(digits);
        }

        boolean punched(int card, Selector selector) {
            char sign = deck.get(card).charAt(selector.column - 1);
            if (selector.punch == 10) {
                return Character.isLetter(sign);
            }
            return digits("" + sign).equals("" + selector.punch);
        }

        void cycle() {
            int card = processed;
            for (int level = 1; level <= breakLevel(card); level++) {
                total(level);
            }
            for (int i = 0; i < selectors.size(); i++) {
                Selector selector = selectors.get(i);
                on[i] = selector.delayed ? card > 0 && punched(card - 1, selector) : punched(card, selector);
            }
            for (int i = 0; i < counters.size(); i++) {
                Counter counter = counters.get(i);
                if (counter.selector < 0 || on[counter.selector] ^ counter.unless) {
                    long value = value(card, counter.field);
                    add(i, counter.mode == 0 ? value : counter.mode == 1 ? -value : signed(card, counter.field));
                }
            }
            StringBuilder line = new StringBuilder();
            for (Step step : steps) {
                if (step.kind.equals("list")) {
                    write(line, step.place, digits(columns(card, numbersOfNames.get(step.first))));
                }
            }
            print(line, 0);
            processed++;
        }

        void total(int level) {
            StringBuilder line = new StringBuilder();
            StringBuilder summary = new StringBuilder();
            for (String kind : new String[] {"roll", "total", "punch", "clear"}) {
                for (Step step : steps) {
                    if (step.level == level && step.kind.equals(kind)) {
                        make(step, line, summary);
                    }
                }
                if (kind.equals("total") && line.length() > 0) {
                    write(line, 41 - level, "***".substring(0, level));
                    print(line, level);
                }
                if (kind.equals("punch") && summary.length() > 0) {
                    summaries.add(padded(summary.toString(), 20, '.').substring(0, 20));
                }
            }
            groups[level]++;
        }

        void make(Step step, StringBuilder line, StringBuilder summary) {
            int number = numbersOfNames.get(step.first);
            switch (step.kind) {
                case "roll" -> add(numbersOfNames.get(step.second), sums[number]);
                case "clear" -> sums[number] = 0;
                case "total" -> {
                    String digits = Long.toString(Math.abs(sums[number]));
                    String blanks = " ".repeat(counters.get(number).width - digits.length());
                    write(line, step.place, blanks + digits + (sums[number] < 0 ? "-" : " "));
                }
                default -> {
                    boolean isField = kindsOfNames.get(step.first).equals("field");
                    String punches = isField ? columns(processed - 1, number) : amount(number);
                    while (summary.length() < step.place - 1 + punches.length()) {
                        summary.append('.');
                    }
                    summary.replace(step.place - 1, step.place - 1 + punches.length(), punches);
                }
            }
        }

        String amount(int counter) {
            String digits = String.format("%0" + counters.get(counter).width + "d", Math.abs(sums[counter]));
            if (sums[counter] >= 0) {
                return digits;
            }
            int last = digits.length() - 1;
            return digits.substring(0, last) + (char) (digits.charAt(last) - '0' + 'a');
        }

        static void write(StringBuilder line, int position, String signs) {
            while (line.length() < position - 1 + signs.length()) {
                line.append(' ');
            }
            line.replace(position - 1, position - 1 + signs.length(), signs);
        }

        /** Prints a line, with its level in front, if anything was written on it. */
        void print(StringBuilder line, int level) {
            if (line.length() > 0) {
                lines.add(level + padded(line.toString(), 40, ' ').substring(0, 40));
            }
        }

        static String padded(String signs, int length, char filler) {
            StringBuilder padded = new StringBuilder(signs);
            while (padded.length() < length) {
                padded.append(filler);
            }
            return padded.toString();
        }

        void finish() {
            while (processed < deck.size()) {
                cycle();
            }
            for (int level = 1; processed > 0 && level <= 3; level++) {
                total(level);
            }
            finished = true;
        }

        State wholeRun() {
            State copy = copy();
            copy.reset();
            copy.finish();
            return copy;
        }

        List<String> keptTotalLines() {
            List<String> kept = new ArrayList<>(lines.subList(0, Math.min(120, lines.size())));
            kept.removeIf(line -> line.startsWith("0"));
            return kept;
        }

        int linesDependingOn(int card) {
            State without = copy();
            without.deck.remove(card);
            Set<String> others = new HashSet<>(without.wholeRun().keptTotalLines());
            List<String> lost = wholeRun().keptTotalLines();
            lost.removeIf(others::contains);
            return lost.size();
        }

        int neededWidth(int counter) {
            for (int width = 1; width <= 9; width++) {
                State wide = copy();
                wide.counters.get(counter).width = width;
                if (wide.wholeRun().overflows[counter] == 0) {
                    return width;
                }
            }
            return -1;
        }

        int crossfootErrors(int a, int b, int sum) {
            State copy = copy();
            copy.reset();
            int errors = 0;
            while (copy.processed < copy.deck.size()) {
                copy.cycle();
                errors += copy.sums[a] + copy.sums[b] == copy.sums[sum] ? 0 : 1;
            }
            return errors;
        }

        int sort(int field) {
            List<Integer> order = new ArrayList<>();
            for (int card = 0; card < deck.size(); card++) {
                order.add(card);
            }
            order.sort((a, b) -> Long.compare(value(a, field), value(b, field)));
            List<String> sorted = new ArrayList<>();
            int moved = 0;
            for (int card = 0; card < deck.size(); card++) {
                sorted.add(deck.get(order.get(card)));
                moved += order.get(card) == card ? 0 : 1;
            }
            deck = sorted;
            reset();
            return moved;
        }
    }

    private Model() {
    }

    /** The patterns of the statements, a token a word; the reader below follows them. */
    private static final Map<String, String> PATTERNS = Map.of(
        "field", "newfield from to ;",
        "selector", "newselector column punch delayed? ;",
        "counter", "newcounter width field mode condition? ;",
        "control", "freelevel field ;",
        "list", "field position ;",
        "total", "level counter position ;",
        "roll", "level counter counter ;",
        "clear", "level counter ;",
        "punch", "level fieldorcounter column ;",
        "card", "columns ;");
    private static final Map<String, Integer> LIMITS = Map.of(
        "field", 8, "selector", 6, "counter", 6, "control", 1000, "list", 12,
        "total", 12, "roll", 8, "clear", 8, "punch", 8, "card", 40);
    private static final List<String> RESERVED = List.of("field", "selector", "counter", "control", "list", "total", "roll",
        "clear", "punch", "card", "delayed", "add", "sub", "signed", "if", "unless");

    /** The first error of a text; thrown by the reader below. */
    static final class Wrong extends RuntimeException {
        private static final long serialVersionUID = 1L;
        final int kind;
        final int position;

        Wrong(int kind, int position) {
            this.kind = kind;
            this.position = position;
        }
    }

    static State read(String text) {
        return new TextReader(text).all();
    }

    private static final class TextReader {
        private final String text;
        private int position;
        private String token;
        private int start;
        private final State state = new State();
        private final Map<String, Integer> seen = new HashMap<>();

        TextReader(String text) {
            this.text = text;
        }

        State all() {
            while (next(null)) {
                String kind = token;
                if (!PATTERNS.containsKey(kind)) {
                    throw new Wrong(2, start);
                }
                if (seen.merge(kind, 1, Integer::sum) > LIMITS.get(kind)) {
                    throw new Wrong(5, start);
                }
                statement(kind);
            }
            return state;
        }

        private boolean matches(String pattern) {
            return token.matches(pattern);
        }

        /** Goes to the next token, of the card's kind if card is not null; false at the end. */
        private boolean next(String card) {
            while (position < text.length() && " \n".indexOf(text.charAt(position)) >= 0) {
                position++;
            }
            start = position;
            if (position == text.length()) {
                token = "";
                return false;
            }
            String rest = text.substring(position);
            String whole = card != null ? "[0-9a-jx.]*" : rest.matches("(?s)[a-z].*") ? "[a-z]*" : rest.matches("(?s)[0-9].*") ? "[0-9]*" : "(?s).";
            java.util.regex.Matcher matcher = java.util.regex.Pattern.compile(whole).matcher(rest);
            matcher.lookingAt();
            token = matcher.group();
            position += token.length();
            if (!matches(card != null ? "[0-9a-jx.]{1,20}" : "[a-z]{1,8}|[0-9]{1,2}|;")) {
                throw new Wrong(1, start);
            }
            return true;
        }

        private void statement(String kind) {
            List<String> got = new ArrayList<>();
            String[] places = PATTERNS.get(kind).split(" ");
            for (int i = 0; i < places.length; i++) {
                if (!next(places[i].equals("columns") ? "" : null)) {
                    throw new Wrong(2, start);
                }
                if (places[i].endsWith("?") && token.equals(";")) {
                    i++;
                }
                int error = judge(places[i], got);
                if (error != 0) {
                    throw new Wrong(error, start);
                }
                got.add(token);
                if (places[i].equals("condition?")) {
                    if (!next(null)) {
                        throw new Wrong(2, start);
                    }
                    int second = name("selector");
                    if (second != 0) {
                        throw new Wrong(second, start);
                    }
                    got.add(token);
                }
            }
            declare(kind, got);
        }

        /** The kind of the error if this token stands at this place of a pattern; 0 if it is right there. */
        private int judge(String place, List<String> before) {
            switch (place) {
                case ";":
                    return token.equals(";") ? 0 : 2;
                case "columns":
                    return 0;
                case "delayed?":
                    return token.equals("delayed") ? 0 : 2;
                case "mode":
                    return matches("add|sub|signed") ? 0 : 2;
                case "condition?":
                    return matches("if|unless") ? 0 : 2;
                case "newfield":
                case "newselector":
                case "newcounter":
                    return !isName() ? 2 : state.kindsOfNames.containsKey(token) ? 4 : 0;
                case "field":
                case "counter":
                    return name(place);
                case "fieldorcounter":
                    return Math.min(name("field"), name("counter"));
                case "from":
                case "column":
                    return number(1, 20);
                case "to":
                    int from = Integer.parseInt(before.get(1));
                    return number(from, Math.min(20, from + 8));
                case "punch":
                    return number(0, 10);
                case "width":
                    return number(1, 9);
                case "level":
                    return number(1, 3);
                case "freelevel":
                    int error = number(1, 3);
                    return error != 0 ? error : state.controls[Integer.parseInt(token)] != -1 ? 5 : 0;
                default:
                    return number(1, 40);
            }
        }

        private boolean isName() {
            return matches("[a-z]+") && !RESERVED.contains(token);
        }

        private int name(String kind) {
            return !isName() ? 2 : kind.equals(state.kindsOfNames.get(token)) ? 0 : 4;
        }

        private int number(int least, int greatest) {
            if (!matches("[0-9]+")) {
                return 2;
            }
            int number = Integer.parseInt(token);
            return number >= least && number <= greatest ? 0 : 3;
        }

        private void declare(String kind, List<String> got) {
            switch (kind) {
                case "field" -> {
                    Field field = new Field();
                    field.from = Integer.parseInt(got.get(1));
                    field.to = Integer.parseInt(got.get(2));
                    name(kind, got.get(0), state.fields.size());
                    state.fields.add(field);
                }
                case "selector" -> {
                    Selector selector = new Selector();
                    selector.column = Integer.parseInt(got.get(1));
                    selector.punch = Integer.parseInt(got.get(2));
                    selector.delayed = got.contains("delayed");
                    name(kind, got.get(0), state.selectors.size());
                    state.selectors.add(selector);
                }
                case "counter" -> {
                    Counter counter = new Counter();
                    counter.width = Integer.parseInt(got.get(1));
                    counter.field = state.numbersOfNames.get(got.get(2));
                    counter.mode = List.of("add", "sub", "signed").indexOf(got.get(3));
                    counter.unless = got.get(4).equals("unless");
                    counter.selector = got.get(4).equals(";") ? -1 : state.numbersOfNames.get(got.get(5));
                    name(kind, got.get(0), state.counters.size());
                    state.counters.add(counter);
                }
                case "control" -> state.controls[Integer.parseInt(got.get(0))] = state.numbersOfNames.get(got.get(1));
                case "card" -> state.deck.add(State.padded(got.get(0), 20, '.'));
                case "list" -> state.steps.add(new Step(kind, 0, got.get(0), "", Integer.parseInt(got.get(1))));
                case "clear" -> state.steps.add(new Step(kind, Integer.parseInt(got.get(0)), got.get(1), "", 0));
                case "roll" -> state.steps.add(new Step(kind, Integer.parseInt(got.get(0)), got.get(1), got.get(2), 0));
                default -> state.steps.add(new Step(kind, Integer.parseInt(got.get(0)), got.get(1), "", Integer.parseInt(got.get(2))));
            }
        }

        private void name(String kind, String name, int number) {
            state.kindsOfNames.put(name, kind);
            state.numbersOfNames.put(name, number);
        }
    }
}

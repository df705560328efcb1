import java.util.ArrayList;
import java.util.List;
import java.util.Random;
import java.util.function.Supplier;

/** Runs of random calls (always the same ones), each answer compared with that of the Model. */
public final class RandomRunsTest {
    private static final int RUNS = 1500;
    private static final int TEXT_RUNS = 4000;
    /** What is done at one turn may take some sixty calls more; an object is good for 512. */
    private static final int CALLS = 440;
    private static int wrong = 0;

    private final Random random;
    private final String name;
    private final Tabulator real = new Tabulator();
    private Model.State model = new Model.State();
    private final Model.State[] saved = new Model.State[3];
    private String buffer = "";
    private int errorKind = 0;
    private int errorPosition = -1;
    private int calls = 0;

    private RandomRunsTest(int seed) {
        random = new Random(seed);
        name = "run " + seed;
    }

    public static void main(String[] args) {
        for (int seed = 0; seed < RUNS && wrong < 20; seed++) {
            new RandomRunsTest(seed).callsOfAllKinds();
        }
        for (int seed = RUNS; seed < RUNS + TEXT_RUNS && wrong < 20; seed++) {
            new RandomRunsTest(seed).texts();
        }
        System.out.println("RandomRunsTest: " + (wrong == 0 ? "all answers are as due" : "answers are not as due"));
        if (wrong != 0) {
            System.exit(1);
        }
    }

    private void callsOfAllKinds() {
        load(new RandomText(random).legal());
        boolean longRuns = random.nextBoolean();
        while (calls < CALLS && wrong < 20) {
            int kind = random.nextInt(100);
            if (kind < 3 && !longRuns) {
                load(random.nextInt(3) == 0 ? new RandomText(random).damaged() : new RandomText(random).legal());
            } else if (kind < 35) {
                askAboutDeck();
            } else if (kind < 45 && (!longRuns || random.nextInt(5) == 0)) {
                changeDeck();
            } else if (kind < 53 && (!longRuns || random.nextInt(5) == 0)) {
                changePlugs();
            } else if (kind < 68) {
                moveMachine();
            } else if (kind < 78) {
                askMachine();
            } else if (kind < 88) {
                askOutput();
            } else if (kind < 93) {
                tryOut();
            } else if (kind < 97) {
                saveAndRestore();
            } else {
                askText();
            }
        }
    }

    private void texts() {
        for (int i = 0; i < 5; i++) {
            load(random.nextInt(4) == 0 ? new RandomText(random).legal() : new RandomText(random).damaged());
        }
    }

    private void compare(String call, Supplier<Object> got, Supplier<Object> due) {
        calls++;
        String expected = outcome(due);
        String answer = outcome(got);
        if (!expected.equals(answer)) {
            wrong++;
            System.out.println(name + ", call " + calls + " " + call + ": answered " + answer + ", due is " + expected);
        }
    }

    private static String outcome(Supplier<Object> call) {
        try {
            return String.valueOf(call.get());
        } catch (RuntimeException e) {
            return "throws." + e.getClass().getSimpleName();
        }
    }

    private static int index(int index, int size) {
        if (index < 0 || index >= size) {
            throw new IndexOutOfBoundsException();
        }
        return index;
    }

    private static int argument(int value, int least, int greatest) {
        if (value < least || value > greatest) {
            throw new IllegalArgumentException();
        }
        return value;
    }

    private static void state(boolean possible) {
        if (!possible) {
            throw new IllegalStateException();
        }
    }

    /** Mostly a number from least to greatest, sometimes one beside it or far away. */
    private int near(int least, int greatest) {
        int kind = random.nextInt(40);
        if (kind == 0) {
            return random.nextBoolean() ? Integer.MIN_VALUE : Integer.MAX_VALUE;
        }
        if (kind == 1) {
            return least - 1 - random.nextInt(2);
        }
        if (kind == 2 || greatest < least) {
            return greatest + 1 + random.nextInt(2);
        }
        return least + random.nextInt(greatest - least + 1);
    }

    private int someCard() {
        return near(0, model.deck.size() - 1);
    }

    private int someField() {
        return near(0, model.fields.size() - 1);
    }

    private int someCounter() {
        return near(0, model.counters.size() - 1);
    }

    private int someLevel() {
        return near(1, 3);
    }

    // text

    private void load(String text) {
        byte[] bytes = text.getBytes(java.nio.charset.StandardCharsets.ISO_8859_1);
        for (int start = 0; start < bytes.length; start += 20) {
            int[] words = new int[5];
            StringBuilder fed = new StringBuilder();
            for (int i = 0; i < 20; i++) {
                int value = start + i < bytes.length ? bytes[start + i] & 255 : random.nextInt(256);
                words[i / 4] |= value << 24 - i % 4 * 8;
                fed.append((char) value);
            }
            compare("feed", () -> real.feed(words[0], words[1], words[2], words[3], words[4]), () -> feed(fed.toString()));
        }
        int length = random.nextInt(30) == 0 ? near(0, buffer.length()) : Math.min(text.length(), buffer.length());
        compare("load(" + length + ") of " + text, () -> real.load(length), () -> load(length));
        askText();
    }

    private int feed(String bytes) {
        if (buffer.length() + 20 > 1100) {
            return -2;
        }
        buffer = buffer + bytes;
        return buffer.length();
    }

    private int load(int length) {
        argument(length, 0, buffer.length());
        String text = buffer.substring(0, length);
        buffer = "";
        errorKind = 0;
        errorPosition = -1;
        try {
            model = Model.read(text);
            return model.deck.size();
        } catch (Model.Wrong error) {
            errorKind = error.kind;
            errorPosition = error.position;
            return -3;
        }
    }

    private void askText() {
        compare("errorKind", real::errorKind, () -> errorKind);
        compare("errorPosition", real::errorPosition, () -> errorPosition);
        compare("cardCount", real::cardCount, () -> model.deck.size());
    }

    // deck

    private static int codeOf(char sign) {
        return sign == '.' ? -1 : sign == 'x' ? 99 : Character.isDigit(sign) ? sign - '0' : sign - 'a' + 100;
    }

    private static char signOf(int code) {
        return code == -1 ? '.' : code == 99 ? 'x' : (char) (code < 10 ? '0' + code : code - 100 + 'a');
    }

    private void askAboutDeck() {
        int card = someCard();
        int field = someField();
        int level = someLevel();
        int cards = model.deck.size();
        int fields = model.fields.size();
        switch (random.nextInt(11)) {
            case 0 -> {
                int column = near(1, 20);
                compare("column(" + card + "," + column + ")", () -> real.column(card, column),
                    () -> codeOf(model.deck.get(index(card, cards)).charAt(index(column - 1, 20))));
            }
            case 1 -> compare("fieldValue(" + card + "," + field + ")", () -> real.fieldValue(card, field),
                () -> model.signed(index(card, cards), index(field, fields)));
            case 2 -> compare("breakLevel(" + card + ")", () -> real.breakLevel(card), () -> model.breakLevel(index(card, cards)));
            case 3 -> compare("groupCount(" + level + ")", () -> real.groupCount(level), () -> model.groupCount(argument(level, 1, 3)));
            case 4 -> compare("groupOf(" + card + "," + level + ")", () -> real.groupOf(card, level),
                () -> model.groupOf(index(card, cards), argument(level, 1, 3)));
            case 5 -> {
                int group = near(0, level >= 1 && level <= 3 ? model.groupCount(level) - 1 : 3);
                compare("groupSum(" + field + "," + level + "," + group + ")", () -> real.groupSum(field, level, group), () -> {
                    index(field, fields);
                    argument(level, 1, 3);
                    return model.groupSum(field, level, argument(group, 0, model.groupCount(level) - 1));
                });
            }
            case 6 -> compare("greatestGroup(" + field + "," + level + ")", () -> real.greatestGroup(field, level),
                () -> greatestGroup(index(field, fields), argument(level, 1, 3)));
            case 7 -> compare("mean(" + field + ")", () -> real.mean(field), () -> mean(index(field, fields)));
            case 8 -> {
                float weight = random.nextInt(8) == 0 ? new float[] {0, -1, 1.01f, Float.NaN, 1}[random.nextInt(5)] : 1 - random.nextFloat();
                compare("movingAverage(" + field + "," + weight + ")", () -> real.movingAverage(field, weight),
                    () -> movingAverage(index(field, fields), weight));
            }
            case 9 -> compare("firstOutOfSequence(" + field + ")", () -> real.firstOutOfSequence(field),
                () -> firstOutOfSequence(index(field, fields)));
            default -> compare("earlierMatch(" + card + "," + field + ")", () -> real.earlierMatch(card, field),
                () -> earlierMatch(index(card, cards), index(field, fields)));
        }
    }

    private int greatestGroup(int field, int level) {
        List<Long> sums = new ArrayList<>();
        for (int group = 0; group < model.groupCount(level); group++) {
            sums.add(model.groupSum(field, level, group));
        }
        return sums.isEmpty() ? -1 : sums.indexOf(java.util.Collections.max(sums));
    }

    private double mean(int field) {
        long sum = 0;
        for (int card = 0; card < model.deck.size(); card++) {
            sum += model.signed(card, field);
        }
        return model.deck.isEmpty() ? 0.0 : (double) sum / model.deck.size();
    }

    private float movingAverage(int field, float weight) {
        if (Float.isNaN(weight) || weight <= 0 || weight > 1) {
            throw new IllegalArgumentException();
        }
        float average = 0;
        for (int card = 0; card < model.deck.size(); card++) {
            float value = model.signed(card, field);
            average = card == 0 ? value : average + (value - average) * weight;
        }
        return average;
    }

    private int firstOutOfSequence(int field) {
        int card = 1;
        while (card < model.deck.size() && model.value(card, field) >= model.value(card - 1, field)) {
            card++;
        }
        return card < model.deck.size() ? card : -1;
    }

    private int earlierMatch(int card, int field) {
        List<Long> values = new ArrayList<>();
        for (int other = 0; other < card; other++) {
            values.add(model.value(other, field));
        }
        return values.lastIndexOf(model.value(card, field));
    }

    // changes

    private void changeDeck() {
        int card = someCard();
        int cards = model.deck.size();
        switch (random.nextInt(6)) {
            case 0 -> {
                int field = someField();
                compare("sort(" + field + ")", () -> real.sort(field), () -> model.sort(index(field, model.fields.size())));
            }
            case 1 -> compare("removeCard(" + card + ")", () -> real.removeCard(card), () -> {
                model.deck.remove(index(card, cards));
                model.reset();
                return model.deck.size();
            });
            case 2 -> compare("copyCard(" + card + ")", () -> real.copyCard(card), () -> {
                String twin = model.deck.get(index(card, cards));
                state(cards < 40);
                model.deck.add(card, twin);
                model.reset();
                return model.deck.size();
            });
            case 3 -> compare("restack", real::restack, () -> {
                state(!model.summaries.isEmpty());
                model.deck = new ArrayList<>(model.summaries.subList(0, Math.min(40, model.summaries.size())));
                model.reset();
                return model.deck.size();
            });
            default -> {
                int column = near(1, 20);
                int code = random.nextBoolean() ? near(-1, 9) : near(99, 109);
                compare("setColumn(" + card + "," + column + "," + code + ")", () -> real.setColumn(card, column, code),
                    () -> setColumn(index(card, cards), index(column - 1, 20), code));
            }
        }
    }

    private int setColumn(int card, int place, int code) {
        if (!(code >= -1 && code <= 9 || code >= 99 && code <= 109)) {
            throw new IllegalArgumentException();
        }
        StringBuilder signs = new StringBuilder(model.deck.get(card));
        int previous = codeOf(signs.charAt(place));
        signs.setCharAt(place, signOf(code));
        model.deck.set(card, signs.toString());
        model.reset();
        return previous;
    }

    private void changePlugs() {
        int counter = someCounter();
        int field = someField();
        int counters = model.counters.size();
        int fields = model.fields.size();
        switch (random.nextInt(3)) {
            case 0 -> {
                int mode = near(0, 2);
                compare("plugCounter(" + counter + "," + field + "," + mode + ")", () -> real.plugCounter(counter, field, mode), () -> {
                    Model.Counter plugged = model.counters.get(index(counter, counters));
                    index(field, fields);
                    plugged.mode = argument(mode, 0, 2);
                    int previous = plugged.field;
                    plugged.field = field;
                    model.reset();
                    return previous;
                });
            }
            case 1 -> {
                int selector = near(-1, model.selectors.size() - 1);
                boolean unless = random.nextBoolean();
                compare("plugSelector(" + counter + "," + selector + "," + unless + ")",
                    () -> real.plugSelector(counter, selector, unless), () -> {
                        Model.Counter plugged = model.counters.get(index(counter, counters));
                        index(selector == Integer.MAX_VALUE ? selector : selector + 1, model.selectors.size() + 1);
                        int previous = plugged.selector;
                        plugged.selector = selector;
                        plugged.unless = unless;
                        model.reset();
                        return previous;
                    });
            }
            default -> {
                int level = someLevel();
                int control = random.nextInt(4) == 0 ? -1 : field;
                compare("plugControl(" + level + "," + control + ")", () -> real.plugControl(level, control), () -> {
                    if (control != -1) {
                        index(control, fields);
                    }
                    int previous = model.controls[argument(level, 1, 3)];
                    model.controls[level] = control;
                    model.reset();
                    return previous;
                });
            }
        }
    }

    // machine

    private void moveMachine() {
        int kind = random.nextInt(20);
        if (kind < 13) {
            int count = random.nextInt(3) == 0 ? near(1, 40) : near(1, 4);
            compare("run(" + count + ")", () -> real.run(count), () -> {
                argument(count, 1, 40);
                state(!model.finished);
                int before = model.processed;
                while (model.processed < Math.min(model.deck.size(), before + count)) {
                    model.cycle();
                }
                return model.processed - before;
            });
        } else if (kind < 18) {
            compare("finish", real::finish, () -> {
                state(!model.finished);
                model.finish();
                return model.lines.size();
            });
        } else {
            compare("reset", () -> {
                real.reset();
                return "";
            }, () -> {
                model.reset();
                return "";
            });
        }
    }

    private void askMachine() {
        int counter = someCounter();
        int counters = model.counters.size();
        switch (random.nextInt(5)) {
            case 0 -> compare("processed", real::processed, () -> model.processed);
            case 1 -> compare("counter(" + counter + ")", () -> real.counter(counter), () -> model.sums[index(counter, counters)]);
            case 2 -> compare("overflows(" + counter + ")", () -> real.overflows(counter), () -> model.overflows[index(counter, counters)]);
            case 3 -> {
                int selector = near(0, model.selectors.size() - 1);
                compare("isSelected(" + selector + ")", () -> real.isSelected(selector),
                    () -> model.on[index(selector, model.selectors.size())]);
            }
            default -> {
                int level = someLevel();
                compare("groups(" + level + ")", () -> real.groups(level), () -> model.groups[argument(level, 1, 3)]);
            }
        }
    }

    // output

    private void askOutput() {
        int lines = Math.min(120, model.lines.size());
        int summaries = Math.min(40, model.summaries.size());
        int line = near(0, lines - 1);
        int summary = near(0, summaries - 1);
        switch (random.nextInt(6)) {
            case 0 -> compare("lineCount", real::lineCount, () -> model.lines.size());
            case 1 -> compare("summaryCount", real::summaryCount, () -> model.summaries.size());
            case 2 -> compare("lineLevel(" + line + ")", () -> real.lineLevel(line), () -> model.lines.get(index(line, lines)).charAt(0) - '0');
            case 3 -> {
                int position = near(1, 40);
                compare("lineCharacter(" + line + "," + position + ")", () -> real.lineCharacter(line, position),
                    () -> model.lines.get(index(line, lines)).charAt(index(position - 1, 40) + 1));
            }
            case 4 -> {
                int column = near(1, 20);
                compare("summaryColumn(" + summary + "," + column + ")", () -> real.summaryColumn(summary, column),
                    () -> codeOf(model.summaries.get(index(summary, summaries)).charAt(index(column - 1, 20))));
            }
            default -> askWholeLineOrCard(lines, summaries);
        }
    }

    private void askWholeLineOrCard(int lines, int summaries) {
        if (lines > 0) {
            int line = random.nextInt(lines);
            compare("line " + line, () -> {
                StringBuilder signs = new StringBuilder().append(real.lineLevel(line));
                for (int position = 1; position <= 40; position++) {
                    signs.append(real.lineCharacter(line, position));
                }
                return signs;
            }, () -> model.lines.get(line));
            calls += 40;
        }
        if (summaries > 0) {
            int summary = random.nextInt(summaries);
            compare("summary card " + summary, () -> {
                StringBuilder signs = new StringBuilder();
                for (int column = 1; column <= 20; column++) {
                    signs.append(signOf(real.summaryColumn(summary, column)));
                }
                return signs;
            }, () -> model.summaries.get(summary));
            calls += 19;
        }
    }

    // trials

    private void tryOut() {
        int counters = model.counters.size();
        switch (random.nextInt(4)) {
            case 0 -> compare("linesOfRun", real::linesOfRun, () -> model.wholeRun().lines.size());
            case 1 -> {
                int counter = someCounter();
                compare("neededWidth(" + counter + ")", () -> real.neededWidth(counter), () -> model.neededWidth(index(counter, counters)));
            }
            case 2 -> {
                int card = someCard();
                compare("linesDependingOn(" + card + ")", () -> real.linesDependingOn(card),
                    () -> model.linesDependingOn(index(card, model.deck.size())));
            }
            default -> {
                int a = someCounter();
                int b = someCounter();
                int sum = someCounter();
                compare("crossfootErrors(" + a + "," + b + "," + sum + ")", () -> real.crossfootErrors(a, b, sum),
                    () -> model.crossfootErrors(index(a, counters), index(b, counters), index(sum, counters)));
            }
        }
    }

    // saved machines

    private void saveAndRestore() {
        int slot = near(0, 2);
        if (random.nextBoolean()) {
            compare("save(" + slot + ")", () -> {
                real.save(slot);
                return "";
            }, () -> {
                saved[index(slot, 3)] = model.copy();
                return "";
            });
        } else {
            compare("restore(" + slot + ")", () -> real.restore(slot), () -> {
                state(saved[index(slot, 3)] != null);
                model = saved[slot].copy();
                return model.deck.size();
            });
        }
    }
}

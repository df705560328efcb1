/**
 * Promises 1 to 5 and the part TEXT: a test for each sentence of the document that names a boundary case.
 * The sentence stands above its test.
 */
public final class TextLimitsTest {
    private static final String NAMES = "field f 1 2; selector s 3 4; counter c 5 f add; ";
    private static final String CARD_SIGNS = "0123456789abcdefghijx.";
    private static final int BLANKS = 0x20202020;
    private static final int[] FAR_NUMBERS = {Integer.MIN_VALUE, Integer.MIN_VALUE + 1, -1101, -1, 1101, Integer.MAX_VALUE};

    private TextLimitsTest() {
    }

    public static void main(String[] args) {
        emptyMachine();
        buffer();
        lengths();
        errors();
        bytes();
        tokens();
        numbers();
        names();
        limits();
        textsThatEnd();
        Check.ends("TextLimitsTest");
    }

    private static void emptyMachine() {
        emptyPlugboard();
        emptyDeckAndMachine();
        emptyBuffer();
        constants();
    }

    private static void buffer() {
        bytesInTheBuffer();
        fullBuffer();
        nothingIsAppendedToAFullBuffer();
        mostSignificantByteFirst();
    }

    private static void lengths() {
        lengthsOfAnEmptyBuffer();
        lengthsBesideTheBytes();
        lengthsOfAFullBuffer();
        theBufferKeepsItsBytes();
        bufferIsEmptyBehindALegalText();
        bufferIsEmptyBehindABadText();
        emptyText();
        textAtTheEndOfTheBuffer();
        nothingIsLeftOfTheTextBefore();
        badTextsChangeNothing();
        successResets();
        savedMachinesStay();
    }

    private static void errors() {
        noLoad();
        loadsThatThrow();
        errorsOfTheLatestLoad();
        firstErrorFromLeftToRight();
        rightEvenIfNoneCanFollow();
        smallerKind();
    }

    private static void bytes() {
        bytesBeforeTheFirstToken();
        bytesBehindTheLastToken();
        bytesBehindTheWordCard();
        bytesInACardToken();
        bytesBehindANumber();
        bytesBehindAName();
    }

    private static void tokens() {
        lengthsOfWords();
        lengthsOfNumbers();
        lengthsOfCardTokens();
        columnsOfCardTokens();
        asFarAsPossible();
        cardTokenOnlyBehindCard();
        endOfStatements();
    }

    private static void numbers() {
        fromAndTo();
        otherNumbers();
        leadingZeros();
    }

    private static void names() {
        reservedWords();
        wordsBesideReservedWords();
        differentNames();
        namesOfEarlierStatements();
        kindsOfNames();
    }

    private static void limits() {
        statementsOfEachKind();
        lastFieldsSelectorsAndCounters();
        lastLists();
        lastTotals();
        lastRolls();
        lastClears();
        lastPunches();
        lastCards();
        everythingFull();
        numberedInTheOrderOfTheText();
        controlsOfALevel();
    }

    private static void textsThatEnd() {
        textsThatEndTooEarly();
        wrongTokensEverywhere();
    }

    // Promise 1

    /** "an empty plugboard" */
    private static void emptyPlugboard() {
        Tabulator x = new Tabulator();
        for (int i : new int[] {0, 1, 5, 6, 7, 8, Integer.MAX_VALUE}) {
            Check.throwsIndex("1 field", () -> x.sort(i));
            Check.throwsIndex("1 counter", () -> x.neededWidth(i));
            Check.throwsIndex("1 overflows", () -> x.overflows(i));
            Check.throwsIndex("1 selector", () -> x.isSelected(i));
            Check.throwsIndex("1 control field", () -> x.plugControl(1, i));
        }
        for (int level = 1; level <= 3; level++) {
            Check.same("1 control", -1, x.plugControl(level, Tabulator.NONE));
        }
    }

    /** "an empty deck" */
    private static void emptyDeckAndMachine() {
        Tabulator x = new Tabulator();
        Check.same("1 cardCount", 0, x.cardCount());
        Check.throwsIndex("1 card", () -> x.column(0, 1));
        Check.throwsIndex("1 card", () -> x.removeCard(0));
        Check.throwsIndex("1 card", () -> x.copyCard(0));
        Check.same("1 run", 0, x.run(40));
        Check.same("1 processed", 0, x.processed());
        Check.throwsState("1 no summary cards", () -> x.restack());
        Check.same("1 finish", 0, x.finish());
        Check.same("1 groups", 0, x.groups(1) + x.groups(2) + x.groups(3));
        Check.same("1 lineCount", 0, x.lineCount());
        Check.same("1 summaryCount", 0, x.summaryCount());
        Check.same("1 linesOfRun", 0, x.linesOfRun());
    }

    /** "an empty buffer" */
    private static void emptyBuffer() {
        Tabulator x = new Tabulator();
        Check.throwsArgument("1 load", () -> x.load(1));
        Check.same("1 feed", 20, x.feed(BLANKS, BLANKS, BLANKS, BLANKS, BLANKS));
    }

    /** "NONE = -1", "FULL = -2", "BAD_TEXT = -3" */
    private static void constants() {
        Check.same("NONE", -1, Tabulator.NONE);
        Check.same("FULL", -2, Tabulator.FULL);
        Check.same("BAD_TEXT", -3, Tabulator.BAD_TEXT);
    }

    // Promise 2

    private static Tabulator withBlanks(int bytes) {
        Tabulator x = new Tabulator();
        for (int i = 0; i < bytes; i += 20) {
            x.feed(BLANKS, BLANKS, BLANKS, BLANKS, BLANKS);
        }
        return x;
    }

    /** "Returns the number of bytes in the buffer" */
    private static void bytesInTheBuffer() {
        Tabulator x = new Tabulator();
        for (int bytes = 20; bytes <= 1100; bytes += 20) {
            Check.same("2 feed", bytes, x.feed(BLANKS, BLANKS, BLANKS, BLANKS, BLANKS));
        }
    }

    /** "FULL if there would be more than 1100" */
    private static void fullBuffer() {
        Check.same("2 feed to 1080", 1080, withBlanks(1060).feed(0, 0, 0, 0, 0));
        Check.same("2 feed to 1100", 1100, withBlanks(1080).feed(0, 0, 0, 0, 0));
        Check.same("2 feed beyond 1100", -2, withBlanks(1100).feed(0, 0, 0, 0, 0));
    }

    /** "(nothing is appended)" */
    private static void nothingIsAppendedToAFullBuffer() {
        Tabulator x = withBlanks(1080);
        // "             card 7;"
        x.feed(BLANKS, BLANKS, BLANKS, 0x20636172, 0x6420373b);
        for (int i = 0; i < 3; i++) {
            Check.same("2 feed beyond", -2, x.feed(0x3b3b3b3b, 0x3b3b3b3b, 0x3b3b3b3b, 0x3b3b3b3b, 0x3b3b3b3b));
        }
        Check.throwsArgument("2 load", () -> x.load(1101));
        Check.throwsArgument("2 load", () -> x.load(1120));
        Check.same("2 load", 1, x.load(1100));
        Check.same("2 card", "7", Check.card(x, 0));
        Check.same("2 feed", 20, x.feed(BLANKS, BLANKS, BLANKS, BLANKS, BLANKS));
        Check.same("2 load", 0, x.load(20));
    }

    /** "the four bytes of a, then of b, c, d and e, the most significant byte of each first" */
    private static void mostSignificantByteFirst() {
        int[] illegal = {0, 1, 127, 128, 160, 255};
        for (int place = 0; place < 20; place++) {
            for (int value : illegal) {
                int[] words = {BLANKS, BLANKS, BLANKS, BLANKS, BLANKS};
                int shift = 24 - place % 4 * 8;
                words[place / 4] = words[place / 4] & ~(255 << shift) | value << shift;
                Tabulator x = new Tabulator();
                x.feed(words[0], words[1], words[2], words[3], words[4]);
                Check.same("2 load with byte " + value + " at " + place, -3, x.load(20));
                Check.same("2 errorKind", 1, x.errorKind());
                Check.same("2 errorPosition", place, x.errorPosition());
            }
        }
    }

    // Promise 3

    /** "length: 0 to the number of bytes in the buffer", with no byte in it */
    private static void lengthsOfAnEmptyBuffer() {
        for (int length : new int[] {1, 20, -1, Integer.MIN_VALUE, Integer.MAX_VALUE}) {
            Check.throwsArgument("3 load(" + length + ")", () -> new Tabulator().load(length));
        }
        Check.same("3 load(0)", 0, new Tabulator().load(0));
    }

    /** "length: 0 to the number of bytes in the buffer", with a few in it */
    private static void lengthsBesideTheBytes() {
        for (int length : new int[] {0, 1, 19, 20}) {
            Check.same("3 load(" + length + ")", 0, withBlanks(20).load(length));
        }
        for (int length : new int[] {-1, 21, 40, Integer.MIN_VALUE, Integer.MAX_VALUE}) {
            Check.throwsArgument("3 load(" + length + ")", () -> withBlanks(20).load(length));
        }
    }

    /** "length: 0 to the number of bytes in the buffer", with as many in it as there may be */
    private static void lengthsOfAFullBuffer() {
        for (int length : new int[] {0, 1, 1099, 1100}) {
            Check.same("3 load(" + length + ")", 0, withBlanks(1100).load(length));
        }
        for (int length : FAR_NUMBERS) {
            Check.throwsArgument("3 load(" + length + ")", () -> withBlanks(1100).load(length));
        }
    }

    /** "if length is out of range (the buffer keeps its bytes)" */
    private static void theBufferKeepsItsBytes() {
        Tabulator x = new Tabulator();
        Check.feedText(x, "card 1;card 22;     ");
        for (int length : new int[] {-1, 21, Integer.MIN_VALUE, Integer.MAX_VALUE}) {
            Check.throwsArgument("3 load(" + length + ")", () -> x.load(length));
        }
        Check.same("3 feed", 40, Check.feedText(x, "card 333;           "));
        Check.throwsArgument("3 load(41)", () -> x.load(41));
        Check.same("3 load", 3, x.load(40));
        Check.same("3 deck", "1 22 333", Check.deck(x));
    }

    /** "empties the buffer", also of the bytes behind the text */
    private static void bufferIsEmptyBehindALegalText() {
        for (int length : new int[] {0, 7, 20}) {
            Tabulator x = new Tabulator();
            Check.feedText(x, "card 1;     card 22;");
            Check.same("3 load(" + length + ")", length == 0 ? 0 : length == 7 ? 1 : 2, x.load(length));
            Check.throwsArgument("3 load(1)", () -> x.load(1));
            Check.same("3 feed", 20, Check.feedText(x, "card 333;           "));
            Check.same("3 load", 1, x.load(20));
            Check.same("3 deck", "333", Check.deck(x));
        }
    }

    /** "empties the buffer, also if the text is not legal" */
    private static void bufferIsEmptyBehindABadText() {
        for (int length : new int[] {1, 6, 20}) {
            Tabulator x = new Tabulator();
            Check.feedText(x, "card 1;           ? ");
            Check.same("3 load(" + length + ")", -3, x.load(length));
            Check.throwsArgument("3 load(1)", () -> x.load(1));
            Check.same("3 feed", 20, Check.feedText(x, "card 333;           "));
            Check.same("3 load", 1, x.load(20));
            Check.same("3 deck", "333", Check.deck(x));
        }
    }

    /** "length: ... 0": the empty text is legal, and its plugboard and deck are empty */
    private static void emptyText() {
        Tabulator x = Check.machine(NAMES + "control 1 f; list f 1; total 1 c 1; punch 1 c 1; card 12; card 34;");
        x.finish();
        Check.same("3 load(0)", 0, x.load(0));
        Check.same("4 errorKind", 0, x.errorKind());
        Check.same("5 errorPosition", -1, x.errorPosition());
        Check.same("3 cardCount", 0, x.cardCount());
        Check.throwsIndex("3 no field", () -> x.mean(0));
        Check.throwsIndex("3 no counter", () -> x.counter(0));
        Check.throwsIndex("3 no selector", () -> x.isSelected(0));
        Check.same("3 no control", -1, x.plugControl(1, -1));
        Check.same("3 reset", 0, x.processed() + x.lineCount() + x.summaryCount() + x.groups(1));
        Check.same("3 finish", 0, x.finish());
    }

    /** "The text has at most 1100 bytes." */
    private static void textAtTheEndOfTheBuffer() {
        String[] ends = {"card 7;", "card 7 ", "card 7?", " ?     ", "card   "};
        int[] kinds = {0, 2, 1, 1, 2};
        int[] positions = {-1, 1100, 1099, 1094, 1100};
        for (int i = 0; i < ends.length; i++) {
            Tabulator x = withBlanks(1080);
            Check.feedText(x, "             " + ends[i]);
            Check.same("3 load", kinds[i] == 0 ? 1 : -3, x.load(1100));
            Check.same("4 errorKind of " + ends[i], kinds[i], x.errorKind());
            Check.same("5 errorPosition of " + ends[i], positions[i], x.errorPosition());
        }
        Tabulator cut = withBlanks(1080);
        Check.feedText(cut, "             card 7;");
        Check.same("3 load(1099)", -3, cut.load(1099));
        Check.same("4 errorKind", 2, cut.errorKind());
        Check.same("5 errorPosition", 1099, cut.errorPosition());
        Check.same("3 load of 1100 bytes with a token at each end", 2, Check.load(new Tabulator(), "card 1;" + " ".repeat(1086) + "card 2;"));
    }

    /** "Reads a plugboard and a deck": what may be missing in a statement does not come from the text before, legal or not */
    private static void nothingIsLeftOfTheTextBefore() {
        String full = "selector s 1 10 delayed;field v 2 3;counter c 1 v sub unless s;control 1 v;control 2 v;control 3 v;list v 1;total 1 c 1;"
            + "roll 1 c c;clear 1 c;punch 1 v 1;card 99999999999999999999;card jjjjjjjjjjjjjjjjjjjj;";
        for (String before : new String[] {full, full + "?", full + "card"}) {
            Tabulator x = new Tabulator();
            Check.load(x, before);
            Check.same("3 load", 2, Check.load(x, "selector t 1 10;field w 2 2;counter d 2 w add;card x3;card .4;"));
            Check.same("7 deck", "x3 .4", Check.deck(x));
            x.run(1);
            Check.same("32 not delayed", true, x.isSelected(0));
            Check.same("30 add, without a selector", 3, x.counter(0));
            x.run(1);
            Check.same("32 not delayed", false, x.isSelected(0));
            Check.same("30 no total cycles", 7, x.counter(0));
            Check.same("28 no lines", 0, x.finish());
            Check.same("37 no summary cards", 0, x.summaryCount());
            Check.same("30 no roll, no clear", 7, x.counter(0));
            for (int level = 1; level <= 3; level++) {
                Check.same("24 no control", -1, x.plugControl(level, -1));
            }
            Check.throwsIndex("8 one field", () -> x.mean(1));
            Check.throwsIndex("30 one counter", () -> x.counter(1));
            Check.throwsIndex("32 one selector", () -> x.isSelected(1));
        }
    }

    /** "BAD_TEXT if the text is not legal (the plugboard, the deck and the machine stay)", for each kind of error */
    private static void badTextsChangeNothing() {
        String[] texts = {"field z 1 1; card 9; ?", "field z 1 1; card 9; z", "field z 1 1; card 9; field y 0",
            "field z 1 1; card 9; list y", "field z 1 1; card 9; control 1 z; control 1", "field z 1 1; card 9; card"};
        int[] kinds = {1, 2, 3, 4, 5, 2};
        for (int i = 0; i < texts.length; i++) {
            for (int cards = 0; cards <= 4; cards++) {
                Tabulator x = Picture.underWay(cards);
                Check.same("3 load", -3, Check.load(x, texts[i]));
                Check.same("4 errorKind", kinds[i], x.errorKind());
                Check.same("3 the machine stays", Picture.machine(Picture.underWay(cards)), Picture.machine(x));
                Check.same("3 the plugboard stays", Picture.plugs(Picture.underWay(cards)), Picture.plugs(x));
            }
        }
    }

    /** "After success the machine is reset" */
    private static void successResets() {
        for (int cards = 0; cards <= 5; cards++) {
            Tabulator x = cards == 5 ? Picture.finished() : Picture.underWay(cards);
            Check.same("3 load", 4, Check.load(x, Picture.TEXT));
            Check.same("3 reset", Picture.machine(Picture.underWay(0)), Picture.machine(x));
            Check.same("3 not finished", 4, x.run(40));
        }
    }

    /** "saved machines stay" */
    private static void savedMachinesStay() {
        Tabulator x = Check.machine("card 1; card 2; card 3;");
        x.run(2);
        for (int slot = 0; slot < 3; slot++) {
            x.save(slot);
        }
        Check.load(x, "card 7;");
        Check.load(x, "");
        Check.load(x, "?");
        for (int slot = 0; slot < 3; slot++) {
            Check.same("3 restore", 3, x.restore(slot));
            Check.same("3 processed", 2, x.processed());
            Check.same("3 deck", "1 2 3", Check.deck(x));
        }
    }

    // Promises 4 and 5

    /** "0 if ... there was no such load()", "NONE if errorKind() is 0" */
    private static void noLoad() {
        Tabulator x = new Tabulator();
        Check.same("4 errorKind", 0, x.errorKind());
        Check.same("5 errorPosition", -1, x.errorPosition());
        Check.throwsArgument("3 load", () -> x.load(1));
        Check.same("4 errorKind", 0, x.errorKind());
        Check.same("5 errorPosition", -1, x.errorPosition());
        x.feed(0x3f3f3f3f, 0, 0, 0, 0);
        Check.throwsArgument("3 load", () -> x.load(21));
        Check.same("4 errorKind", 0, x.errorKind());
        Check.same("5 errorPosition", -1, x.errorPosition());
    }

    /** "the latest load() that did not throw an exception" */
    private static void loadsThatThrow() {
        Tabulator x = new Tabulator();
        Check.load(x, "card 1; card 2");
        for (int length : new int[] {-1, 1, Integer.MAX_VALUE}) {
            Check.throwsArgument("3 load", () -> x.load(length));
            Check.same("4 errorKind", 2, x.errorKind());
            Check.same("5 errorPosition", 14, x.errorPosition());
        }
        Check.load(x, "card 1;");
        Check.throwsArgument("3 load", () -> x.load(1));
        Check.same("4 errorKind", 0, x.errorKind());
        Check.same("5 errorPosition", -1, x.errorPosition());
    }

    /** "Returns the kind of the error of the latest load()", "the position of that error" */
    private static void errorsOfTheLatestLoad() {
        String[] texts = {"?", " ;", "field f 0", "list f", "", NAMES + "control 1 f;control 1 f;", "card 1;", "card"};
        int[] kinds = {1, 2, 3, 4, 0, 5, 0, 2};
        int[] positions = {0, 1, 8, 5, -1, NAMES.length() + 20, -1, 4};
        Tabulator x = new Tabulator();
        for (int i = 0; i < texts.length; i++) {
            Check.load(x, texts[i]);
            Check.same("4 errorKind of " + texts[i], kinds[i], x.errorKind());
            Check.same("5 errorPosition of " + texts[i], positions[i], x.errorPosition());
            x.reset();
            x.save(0);
            x.restore(0);
            Check.same("4 errorKind stays", kinds[i], x.errorKind());
            Check.same("5 errorPosition stays", positions[i], x.errorPosition());
        }
    }

    /** "The error of a text is its first token, from left to right, that cannot be continued to a legal text" */
    private static void firstErrorFromLeftToRight() {
        Check.bad(1, "^? ;");
        Check.bad(2, "^; ?");
        Check.bad(3, "field f ^0 0 ?");
        Check.bad(4, "list ^f 0 ?");
        Check.bad(5, NAMES + "control 1 f; control ^1 0 ?");
        Check.bad(3, "field f 1 ^21; field f 1 1;");
        Check.bad(4, "field f 1 1; field ^f 0 0;");
        Check.bad(2, "field ^1 0 0; ?");
    }

    /** "a token counts as right even if no legal one can follow it" */
    private static void rightEvenIfNoneCanFollow() {
        Check.bad(2, "list^");
        Check.bad(4, "list ^a");
        Check.bad(2, "counter c 1 ^");
        Check.bad(4, "counter c 1 ^f");
        Check.bad(4, "roll 1 ^c");
        Check.bad(4, "punch 3 ^c");
        Check.bad(4, "control 3 ^f");
        Check.bad(4, "field f 1 1; counter c 1 f add if ^s;");
        String all = NAMES + "control 1 f; control 2 f; control 3 f; ";
        Check.bad(2, all + "control^");
        Check.bad(2, all + "control ^;");
        Check.bad(3, all + "control ^0");
        Check.bad(3, all + "control ^4");
        for (int level = 1; level <= 3; level++) {
            Check.bad(5, all + "control ^" + level);
        }
    }

    /** "If two kinds apply to one token, the smaller kind is reported." */
    private static void smallerKind() {
        // an illegal token is also another one than was expected
        Check.bad(1, "field f ^100 1;");
        Check.bad(1, "field ^100 1 1;");
        Check.bad(1, "field f ^abcdefghi 1;");
        Check.bad(1, Check.repeated("card 1;", 40) + "^cardcardc 1;");
        Check.bad(1, NAMES + "control 1 f; control ^001 f;");
        // a number out of range where no number was expected, a reserved word where a declared name was expected
        Check.bad(2, NAMES + "list ^99 1;");
        Check.bad(2, NAMES + "list ^add 1;");
        Check.bad(2, NAMES + "counter ^if 1 f add;");
        Check.bad(2, NAMES + "control 1 f; control ^f f;");
        // a level out of range is no second control statement
        Check.bad(3, NAMES + "control 1 f; control ^0 f;");
    }

    // TEXT: bytes

    private static boolean isBlank(int value) {
        return value == 32 || value == 10;
    }

    private static boolean isDigit(int value) {
        return value >= 48 && value <= 57;
    }

    private static boolean isLetter(int value) {
        return value >= 97 && value <= 122;
    }

    private static boolean isOfAToken(int value) {
        return isDigit(value) || isLetter(value) || value == 59;
    }

    /** "Spaces (32) and line feeds (10) may stand before the first token", "any other byte" */
    private static void bytesBeforeTheFirstToken() {
        for (int value = 0; value < 256; value++) {
            String text = (char) value + "card 1;";
            if (isBlank(value)) {
                Check.legal(1, text);
            } else {
                Check.bad(isOfAToken(value) ? 2 : 1, 0, text);
            }
        }
    }

    /** "Spaces (32) and line feeds (10) may stand ... behind the last token" */
    private static void bytesBehindTheLastToken() {
        for (int value = 0; value < 256; value++) {
            String text = "card 1;" + (char) value;
            if (isBlank(value)) {
                Check.legal(1, text);
            } else {
                Check.bad(isOfAToken(value) ? 2 : 1, 7, text);
            }
        }
        Check.legal(0, " ".repeat(1100));
        Check.legal(0, "\n".repeat(1100));
    }

    /** "Spaces (32) and line feeds (10) may stand ... between tokens", "if another byte stands where it should begin, the token is illegal" */
    private static void bytesBehindTheWordCard() {
        for (int value = 0; value < 256; value++) {
            String text = "card" + (char) value + "1;";
            if (isBlank(value)) {
                Check.same("3 card", "1", Check.card(Check.legal(1, text), 0));
            } else if (isDigit(value) || value == 46) {
                Check.same("3 card", (char) value + "1", Check.card(Check.legal(1, text), 0));
            } else if (isLetter(value)) {
                Check.bad(2, 0, text);
            } else {
                Check.bad(1, 4, text);
            }
            boolean begins = CARD_SIGNS.indexOf(value) >= 0;
            String separate = "card " + (char) value + "1;";
            if (begins || isBlank(value)) {
                Check.legal(1, separate);
            } else {
                Check.bad(1, 5, separate);
            }
        }
    }

    /** "A card token is a run of ... the characters 0 to 9, a to j, x and the point, as long as possible" */
    private static void bytesInACardToken() {
        for (int value = 0; value < 256; value++) {
            String text = "card 1" + (char) value + ";";
            if (CARD_SIGNS.indexOf(value) >= 0) {
                Check.same("3 card", value == 46 ? "1" : "1" + (char) value, Check.card(Check.legal(1, text), 0));
            } else if (isBlank(value)) {
                Check.same("3 card", "1", Check.card(Check.legal(1, text), 0));
            } else if (value == 59) {
                Check.bad(2, 7, text);
            } else {
                Check.bad(isLetter(value) ? 2 : 1, 6, text);
            }
        }
    }

    /** "numbers (1 to 2 digits)": what may stand behind one, and what ends it */
    private static void bytesBehindANumber() {
        for (int value = 0; value < 256; value++) {
            String text = "field f 1" + (char) value + "1;";
            if (isBlank(value)) {
                Check.legal(0, text);
            } else if (isDigit(value)) {
                Check.bad(1, 8, text);
            } else {
                Check.bad(isOfAToken(value) ? 2 : 1, 9, text);
            }
        }
    }

    /** "words (1 to 8 lower-case letters)": the letters, the bytes beside them, and what ends a word */
    private static void bytesBehindAName() {
        for (int value = 0; value < 256; value++) {
            String text = "field f" + (char) value + " 2 2;field f 1 1;";
            if (isLetter(value)) {
                Check.legal(0, text);
            } else if (isBlank(value)) {
                Check.bad(4, 19, text);
            } else if (value >= 49 && value <= 50) {
                // the number 1 or 2 ends the word, and then a number stands where the semicolon should
                Check.bad(2, 11, text);
            } else if (isDigit(value)) {
                Check.bad(3, value == 48 ? 7 : 9, text);
            } else {
                Check.bad(value == 59 ? 2 : 1, 7, text);
            }
        }
    }

    // TEXT: tokens

    /** "words (1 to 8 lower-case letters)", "A longer run of letters" */
    private static void lengthsOfWords() {
        String letters = "qwertzuvabcdefghijklmnop";
        for (int length = 1; length <= letters.length(); length++) {
            String word = letters.substring(0, length);
            int inName = length <= 8 ? 0 : 1;
            if (inName == 0) {
                Check.legal(0, "field " + word + " 1 1;");
                Check.legal(0, "field " + word + " 1 1;list " + word + " 1;");
                Check.bad(2, "^" + word + " f 1 1;");
                Check.bad(2, "field f 1 1^" + word);
                Check.bad(4, NAMES + "list ^" + word + " 1;");
            } else {
                Check.bad(1, "field ^" + word + " 1 1;");
                Check.bad(1, "^" + word + " f 1 1;");
                Check.bad(1, "field f 1 1^" + word);
                Check.bad(1, NAMES + "list ^" + word + " 1;");
                Check.bad(1, NAMES + "counter d 1 f ^" + word);
                Check.bad(1, NAMES + "counter d 1 f add ^" + word);
                Check.bad(1, NAMES + "selector d 1 1 ^" + word);
                Check.bad(1, NAMES + "control ^" + word + " f;");
            }
        }
        // a word too long does not count as its first or its last letters
        Check.bad(1, "field abcdefgh 1 1; list ^abcdefghi 1;");
        Check.bad(1, "field abcdefgh 1 1; list ^iabcdefgh 1;");
        Check.bad(1, "field abcdefgh 1 1; list ^abcdefghabcdefgh 1;");
        Check.bad(1, "^selectors 1 1;");
        Check.bad(1, "^xselector 1 1;");
    }

    /** "numbers (1 to 2 digits)", "a longer run of digits" */
    private static void lengthsOfNumbers() {
        Check.legal(0, "field f 1 9;");
        Check.legal(0, "field f 12 19;");
        // such long numbers are 1 or 2 with the wrap-around of an int or a long
        for (String number : new String[] {"000", "001", "123", "0001", "4294967297", "4294967298", "18446744073709551617", "1".repeat(99)}) {
            Check.bad(1, "field f ^" + number + " 1;");
            Check.bad(1, "field f 1 ^" + number + ";");
            Check.bad(1, "field ^" + number + " 1 1;");
            Check.bad(1, "^" + number);
            Check.bad(1, "field f 1 1 ^" + number);
            Check.bad(1, NAMES + "list f ^" + number);
            Check.bad(1, NAMES + "control ^" + number);
        }
    }

    /** "A card token is a run of 1 to 20", "if the run is longer, ... the token is illegal" */
    private static void lengthsOfCardTokens() {
        for (int length = 0; length <= 44; length++) {
            String run = "9x.j0".repeat(9).substring(0, length);
            if (length >= 1 && length <= 20) {
                Check.legal(1, "card " + run + ";");
            } else {
                Check.bad(1, "card ^" + run + ";");
            }
        }
        Check.bad(1, "card ^" + "1".repeat(1000));
        Check.bad(1, "card 1; card ^" + ".".repeat(21) + "; card 2;");
    }

    /** "Its characters are the columns 1, 2, 3 and so on of the card", "The other columns of a card are empty." */
    private static void columnsOfCardTokens() {
        for (int length = 1; length <= 20; length++) {
            for (int shift = 0; shift < CARD_SIGNS.length(); shift += 11) {
                String token = (CARD_SIGNS + CARD_SIGNS).substring(shift, shift + length);
                // the text before has filled all columns
                Tabulator x = Check.machine("card " + "7".repeat(20) + "; card " + "a".repeat(20) + ";");
                Check.load(x, "card " + token + ";");
                for (int column = 1; column <= 20; column++) {
                    int code = column > length ? -1 : code(token.charAt(column - 1));
                    Check.same("7 column " + column + " of " + token, code, x.column(0, column));
                }
            }
        }
    }

    private static int code(char sign) {
        int place = CARD_SIGNS.indexOf(sign);
        return place < 10 ? place : place < 20 ? 90 + place : place == 20 ? 99 : -1;
    }

    /** "A token extends as far as possible." */
    private static void asFarAsPossible() {
        Check.legal(0, "field f1 2;field g12 12;selector s3 4delayed;counter c5f add if s;counter d5g sub;control1f;list f40;"
            + "total1c 2;roll1c d;clear1c;punch1c2;");
        Check.legal(3, "card1;card.x;card 9j;");
        Check.bad(2, "^cardx;");
        Check.bad(2, "^carda1;");
        Check.bad(2, "^fieldf 1 1;");
        Check.bad(1, "field f ^123;");
        Check.bad(2, "field f 12^;");
        Check.bad(4, NAMES + "counter d 1 ^fadd;");
        Check.bad(2, NAMES + "counter d 1 f ^addif s;");
        Check.bad(2, NAMES + "counter d 1 f add ^ifs;");
        Check.bad(2, "selector s 1 1 ^delayedd;");
        Check.bad(4, NAMES + "roll 1 ^cc;");
        Check.bad(2, "card 1x^k;");
    }

    /** "behind the word card at the beginning of a statement there is a card token instead" */
    private static void cardTokenOnlyBehindCard() {
        Check.legal(1, "card 123;");
        Check.legal(1, "card abcdefghij;");
        Check.legal(1, "card add;");
        Check.bad(1, "field f ^123");
        Check.bad(1, "field ^abcdefghij 1 1;");
        Check.bad(2, "field f 1 1 ^card 1;");
        Check.bad(2, "field ^card 1 1;");
        Check.bad(1, "field f 1 1; list ^. 1;");
        Check.bad(1, "card 1 ^.;");
        Check.bad(1, "card 1; ^.");
        Check.bad(2, "card 1; ^x;");
    }

    /** "Each statement ends with a semicolon" */
    private static void endOfStatements() {
        String[] statements = {"field g 1 1", "selector t 1 1", "selector t 1 1 delayed", "counter d 1 f add", "counter d 1 f sub if s",
            "counter d 1 f signed unless s", "control 1 f", "list f 1", "total 1 c 1", "roll 1 c c", "clear 1 c", "punch 1 f 1",
            "punch 1 c 1", "card 1"};
        for (String statement : statements) {
            int cards = statement.startsWith("card") ? 1 : 0;
            Check.legal(cards, NAMES + statement + ";");
            Check.legal(cards, NAMES + statement + "\n ;\n ");
            Check.bad(2, NAMES + statement + "^");
            Check.bad(2, NAMES + statement + " ^list f 1;");
            Check.bad(2, NAMES + statement + ";^;");
            Check.bad(1, NAMES + statement + "^,");
            Check.bad(1, NAMES + statement + "^:");
        }
    }

    // TEXT: numbers

    /** "FROM is 1 to 20, TO is FROM to 20, but at most FROM + 8." */
    private static void fromAndTo() {
        for (int from = 0; from <= 22; from++) {
            for (int to = 0; to <= 31; to++) {
                String text = "field f " + from + " " + to + ";";
                if (from < 1 || from > 20) {
                    Check.bad(3, 8, text);
                } else if (to < from || to > 20 || to > from + 8) {
                    Check.bad(3, from < 10 ? 10 : 11, text);
                } else {
                    Check.legal(0, text);
                }
            }
        }
        Check.bad(3, "field f ^99 99;");
        Check.bad(3, "field f 20 ^99;");
    }

    /** "COLUMN is 1 to 20. PUNCH is 0 to 10. WIDTH is 1 to 9. LEVEL is 1 to 3. POSITION is 1 to 40." */
    private static void otherNumbers() {
        range(1, 20, "selector t ", " 1;");
        range(0, 10, "selector t 1 ", ";");
        range(0, 10, "selector t 1 ", " delayed;");
        range(1, 9, "counter d ", " f add;");
        range(1, 3, "control ", " f;");
        range(1, 40, "list f ", ";");
        range(1, 3, "total ", " c 1;");
        range(1, 40, "total 1 c ", ";");
        range(1, 3, "roll ", " c c;");
        range(1, 3, "clear ", " c;");
        range(1, 3, "punch ", " f 1;");
        range(1, 20, "punch 1 f ", ";");
        range(1, 20, "punch 1 c ", ";");
    }

    private static void range(int least, int greatest, String before, String behind) {
        for (int number = 0; number <= 99; number++) {
            String text = NAMES + before + number + behind;
            if (number >= least && number <= greatest) {
                Check.legal(0, text);
            } else {
                Check.bad(3, NAMES.length() + before.length(), text);
            }
        }
    }

    /** "numbers (1 to 2 digits)": a 0 in front is no other number */
    private static void leadingZeros() {
        Tabulator x = Check.machine("field f 01 09;selector s 01 00;selector t 01 09;counter c 09 f add;control 03 f;list f 01;card 0;");
        x.run(1);
        Check.same("32 punch 0", true, x.isSelected(0));
        Check.same("32 punch 9", false, x.isSelected(1));
        Check.same("24 level 3", 0, x.plugControl(3, 0));
        Check.bad(3, "field f ^00 01;");
        Check.bad(3, NAMES + "counter d ^00 f add;");
        Check.bad(3, NAMES + "control ^00 f;");
        Check.bad(3, NAMES + "control ^04 f;");
        Check.bad(3, NAMES + "list f ^00;");
    }

    // TEXT: names

    private static final String[] RESERVED = {
        "field", "selector", "counter", "control", "list", "total", "roll", "clear", "punch", "card",
        "delayed", "add", "sub", "signed", "if", "unless"};

    /** "The words field, selector, ... are reserved. A NAME is a word that is not reserved" */
    private static void reservedWords() {
        for (String word : RESERVED) {
            Check.bad(2, "field ^" + word + " 1 1;");
            Check.bad(2, "selector ^" + word + " 1 1;");
            Check.bad(2, NAMES + "counter ^" + word + " 1 f add;");
            Check.bad(2, NAMES + "counter d 1 ^" + word + " add;");
            Check.bad(2, NAMES + "counter d 1 f add if ^" + word + ";");
            Check.bad(2, NAMES + "counter d 1 f add unless ^" + word + ";");
            Check.bad(2, NAMES + "control 1 ^" + word + ";");
            Check.bad(2, NAMES + "list ^" + word + " 1;");
            Check.bad(2, NAMES + "total 1 ^" + word + " 1;");
            Check.bad(2, NAMES + "roll 1 ^" + word + " c;");
            Check.bad(2, NAMES + "roll 1 c ^" + word + ";");
            Check.bad(2, NAMES + "clear 1 ^" + word + ";");
            Check.bad(2, NAMES + "punch 1 ^" + word + " 1;");
        }
    }

    /** "A NAME is a word that is not reserved": words that are a letter longer or shorter are names */
    private static void wordsBesideReservedWords() {
        for (String word : RESERVED) {
            String[] beside = {word.substring(1), word.substring(0, word.length() - 1), word + "s", "x" + word};
            for (String name : beside) {
                if (name.length() <= 8) {
                    Check.legal(0, "field " + name + " 1 1;list " + name + " 1;");
                    Check.bad(2, "^" + name + " f 1 1;");
                }
            }
        }
    }

    /** "the names of all fields, selectors and counters together are different" */
    private static void differentNames() {
        String[] declarations = {"field # 1 1;", "selector # 1 1;", "counter # 1 f add;"};
        String first = "field f 1 1;";
        for (String one : declarations) {
            for (String other : declarations) {
                for (String name : new String[] {"a", "abcdefgh"}) {
                    String text = first + one.replace("#", name);
                    Check.legal(0, text + other.replace("#", "b"));
                    Check.bad(4, text + other.replace("#", "^" + name));
                }
                String eight = first + one.replace("#", "abcdefgh");
                // names that differ in one letter, or in their length, are different
                Check.legal(0, eight + other.replace("#", "abcdefgi"));
                Check.legal(0, eight + other.replace("#", "bbcdefgh"));
                Check.legal(0, eight + other.replace("#", "abcdefg"));
                Check.legal(0, eight + other.replace("#", "bcdefgh"));
            }
        }
        String all = Check.repeated("field f# 1 1;", 8) + Check.repeated("selector s# 1 1;", 6) + Check.repeated("counter c# 1 fa add;", 5);
        Check.legal(0, all + "counter cz 1 fa add;");
        Check.bad(4, all + "counter ^fa 1 fa add;");
        Check.bad(4, all + "counter ^fh 1 fa add;");
        Check.bad(4, all + "counter ^sf 1 fa add;");
        Check.bad(4, all + "counter ^ce 1 fa add;");
    }

    /** "FIELD, SELECTOR and COUNTER are names that an earlier statement declares as such." */
    private static void namesOfEarlierStatements() {
        Check.bad(4, "list ^f 1; field f 1 1;");
        Check.bad(4, "counter c 1 ^c add;");
        Check.bad(4, "field f 1 1; counter c 1 f add if ^c;");
        Check.bad(4, "field f 1 1; counter c 1 f add if ^s; selector s 1 1;");
        Check.bad(4, "clear 1 ^c; field f 1 1; counter c 1 f add;");
        Check.legal(0, "field f 1 1;list f 1;selector s 1 1;counter c 1 f add if s;clear 1 c;");
        // what a text before has declared is gone
        Tabulator x = Check.machine(NAMES);
        Check.same("3 load", -3, Check.load(x, "list f 1;"));
        Check.same("4 errorKind", 4, x.errorKind());
        Check.same("3 load", -3, Check.load(x, "field g 1 1; ?"));
        Check.same("3 load", -3, Check.load(x, "list g 1;"));
        Check.same("4 errorKind", 4, x.errorKind());
        Check.same("3 a name of the text before may be declared", 0, Check.load(x, "field s 1 1; selector f 1 1;"));
    }

    /** "a name that is not declared as what it must be (in a punch statement as a field or counter)" */
    private static void kindsOfNames() {
        String[] before = {"counter d 1 ", "counter d 1 f add if ", "counter d 1 f add unless ", "control 1 ", "list ", "total 1 ",
            "roll 1 ", "roll 1 c ", "clear 1 ", "punch 1 "};
        String[] behind = {" add;", ";", ";", ";", " 1;", " 1;", " c;", ";", ";", " 1;"};
        String[] right = {"f", "s", "s", "f", "f", "c", "c", "c", "c", "fc"};
        for (int i = 0; i < before.length; i++) {
            for (String name : new String[] {"f", "s", "c", "d", "z"}) {
                if (right[i].contains(name)) {
                    Check.legal(0, NAMES + before[i] + name + behind[i]);
                } else {
                    Check.bad(4, NAMES + before[i] + "^" + name + behind[i]);
                }
            }
        }
    }

    // TEXT: limits

    /** "at most 8 fields, 6 selectors, 6 counters, 12 list, 12 total, 8 roll, 8 clear and 8 punch statements, and 40 cards" */
    private static void statementsOfEachKind() {
        statements(8, "", "field x# 1 1;", "field");
        statements(6, "", "selector x# 1 1;", "selector");
        statements(6, "field f 1 1;", "counter x# 1 f add;", "counter");
        statements(12, NAMES, "list f 1;", "list");
        statements(12, NAMES, "total 1 c 1;", "total");
        statements(8, NAMES, "roll 1 c c;", "roll");
        statements(8, NAMES, "clear 1 c;", "clear");
        statements(8, NAMES, "punch 1 c 1;", "punch");
        statements(40, "", "card 1;", "card");
    }

    /** Just below, at and just above a limit; "the position is that of the statement's first word". */
    private static void statements(int limit, String before, String statement, String word) {
        int card = word.equals("card") ? 1 : 0;
        Check.legal(card * (limit - 1), before + Check.repeated(statement, limit - 1));
        String full = before + Check.repeated(statement, limit);
        Check.legal(card * limit, full);
        Check.bad(5, full + "^" + statement.replace("#", "z"));
        Check.bad(5, full + " \n^" + word);
        Check.bad(5, full + "^" + word + " ?");
        Check.bad(2, full + "^;");
        Check.bad(2, full + "^" + word.substring(1));
        // a text that is full is no reason against the next one
        Tabulator x = new Tabulator();
        Check.load(x, full + word);
        Check.same("4 errorKind", 5, x.errorKind());
        Check.same("3 load", card * limit, Check.load(x, full));
    }

    /** "at most 8 fields, 6 selectors, 6 counters": the last ones do what the first ones do */
    private static void lastFieldsSelectorsAndCounters() {
        StringBuilder text = new StringBuilder();
        for (int i = 0; i < 8; i++) {
            text.append("field f").append((char) ('a' + i)).append(' ').append(i + 1).append(' ').append(i + 1).append(';');
        }
        for (int i = 0; i < 6; i++) {
            text.append("selector s").append((char) ('a' + i)).append(' ').append(i + 1).append(' ').append(i + 1).append(';');
        }
        for (int i = 0; i < 6; i++) {
            text.append("counter c").append((char) ('a' + i)).append(" 2 f").append((char) ('c' + i)).append(" add if s").append((char) ('a' + i)).append(';');
        }
        Tabulator x = Check.machine(text + "card 12345678;card 12345078;");
        x.run(1);
        for (int i = 0; i < 8; i++) {
            Check.same("8 field " + i, i + 1L, x.fieldValue(0, i));
        }
        for (int i = 0; i < 6; i++) {
            Check.same("32 selector " + i, true, x.isSelected(i));
            Check.same("30 counter " + i, i + 3, x.counter(i));
        }
        x.run(1);
        Check.same("32 the last selector", false, x.isSelected(5));
        Check.same("30 the last counter", 8, x.counter(5));
        Check.same("30 the counter before", 14, x.counter(4));
        Check.throwsIndex("8 field", () -> x.fieldValue(0, 8));
        Check.throwsIndex("32 selector", () -> x.isSelected(6));
        Check.throwsIndex("30 counter", () -> x.counter(6));
    }

    /** "at most ... 12 list ... statements": the last one prints */
    private static void lastLists() {
        StringBuilder text = new StringBuilder("field f 1 1;field g 2 2;");
        for (int i = 1; i <= 12; i++) {
            text.append("list ").append(i % 2 == 0 ? 'g' : 'f').append(' ').append(3 * i).append(';');
        }
        Tabulator x = Check.machine(text + "card 12;");
        x.run(1);
        Check.same("35 line", "  1  2  1  2  1  2  1  2  1  2  1  2", Check.line(x, 0));
    }

    /** "at most ... 12 total ... statements": the last one prints */
    private static void lastTotals() {
        StringBuilder text = new StringBuilder("field f 1 1;counter c 1 f add;counter d 1 f sub;");
        for (int i = 1; i <= 12; i++) {
            text.append("total 1 ").append(i % 2 == 0 ? 'd' : 'c').append(' ').append(3 * i).append(';');
        }
        Tabulator x = Check.machine(text + "card 7;");
        x.finish();
        Check.same("35 line", "  7  7- 7  7- 7  7- 7  7- 7  7- 7  7-  *", Check.line(x, 0));
    }

    /** "at most ... 8 roll ... statements": the last one rolls */
    private static void lastRolls() {
        Tabulator x = Check.machine("field f 1 1;counter c 9 f add;" + "roll 1 c c;".repeat(8) + "card 3;");
        x.finish();
        Check.same("30 counter", 3 << 8, x.counter(0));
        Tabulator y = Check.machine("field f 1 1;counter c 9 f add;counter d 9 f sub;" + "roll 2 c c;".repeat(7) + "roll 3 c d;card 3;");
        y.finish();
        Check.same("30 counter", (3 << 7) - 3, y.counter(1));
    }

    /** "at most ... 8 clear ... statements": the last one clears */
    private static void lastClears() {
        Tabulator x = Check.machine("field f 1 1;counter c 1 f add;counter d 1 f add;" + "clear 1 c;".repeat(7) + "clear 3 d;card 3;");
        x.finish();
        Check.same("30 counter", 0, x.counter(1));
        Tabulator y = Check.machine("field f 1 1;counter c 1 f add;counter d 1 f add;" + "clear 1 c;".repeat(7) + "card 3;");
        y.finish();
        Check.same("30 counter", 3, y.counter(1));
    }

    /** "at most ... 8 punch statements": the last one punches */
    private static void lastPunches() {
        StringBuilder text = new StringBuilder("field f 1 1;counter c 1 f sub;");
        for (int i = 1; i <= 8; i++) {
            text.append("punch 1 ").append(i % 2 == 0 ? 'c' : 'f').append(' ').append(2 * i).append(';');
        }
        Tabulator x = Check.machine(text + "card 3;");
        x.finish();
        Check.same("38 summary card", ".3.d.3.d.3.d.3.d", Check.summary(x, 0));
    }

    /** "and 40 cards": the last one is processed */
    private static void lastCards() {
        Tabulator x = Check.machine("field f 1 1;counter c 3 f add;" + "card 1;".repeat(39) + "card 5;");
        Check.same("6 cardCount", 40, x.cardCount());
        Check.same("8 the last card", 5L, x.fieldValue(39, 0));
        x.finish();
        Check.same("29 processed", 40, x.processed());
        Check.same("30 counter", 44, x.counter(0));
    }

    /** A text with as many statements of every kind as there may be. */
    private static void everythingFull() {
        String text = Check.repeated("field a#1 1;", 8) + Check.repeated("selector s#1 1;", 6) + Check.repeated("counter c#1aa add;", 6)
            + "control1aa;control2ab;control3ac;" + "list aa1;".repeat(12) + "total1ca2;".repeat(12) + "roll1ca cb;".repeat(8) + "clear1cf;".repeat(8)
            + "punch1ca1;".repeat(8);
        String cards = "card1;".repeat(40);
        Check.same("3 this text is not too long", true, text.length() + cards.length() <= 1100);
        Check.legal(40, text + cards);
        String[] more = {"field", "selector", "counter", "list", "total", "roll", "clear", "punch", "card"};
        for (String word : more) {
            Check.bad(5, text + cards + "^" + word);
        }
        Check.bad(5, text + cards + "control ^1");
    }

    /** "each kind is numbered from 0 in the order of the text" */
    private static void numberedInTheOrderOfTheText() {
        Tabulator x = Check.machine("card 12;field z 1 1;selector y 1 1;card 34;field a 2 2;counter n 2 a add;selector b 2 2;list a 1;"
            + "counter m 2 z add if b;card 52;list z 1;field k 1 2;");
        Check.same("7 deck", "12 34 52", Check.deck(x));
        Check.same("8 field 0", 1L, x.fieldValue(0, 0));
        Check.same("8 field 1", 2L, x.fieldValue(0, 1));
        Check.same("8 field 2", 12L, x.fieldValue(0, 2));
        x.run(3);
        Check.same("30 counter 0", 8, x.counter(0));
        Check.same("30 counter 1", 6, x.counter(1));
        Check.same("32 selector 0", false, x.isSelected(0));
        Check.same("32 selector 1", true, x.isSelected(1));
        Check.same("35 the second list statement is printed later", "1", Check.line(x, 0));
        Check.same("22 the field of counter 0", 1, x.plugCounter(0, 2, 0));
        Check.same("22 the field of counter 1", 0, x.plugCounter(1, 2, 0));
        Check.same("23 the selector of counter 1", 1, x.plugSelector(1, -1, false));
    }

    /** "A level has at most one control statement.", "a second control statement of a level (the position is that ...; of the LEVEL for control)" */
    private static void controlsOfALevel() {
        int[][] orders = {{1, 2, 3}, {3, 2, 1}, {2, 3, 1}};
        for (int[] order : orders) {
            StringBuilder text = new StringBuilder(NAMES + "field g 3 3;");
            for (int level : order) {
                text.append("control ").append(level).append(" f;");
                Check.legal(0, text.toString());
                for (int again = 1; again <= 3; again++) {
                    boolean second = text.indexOf("control " + again) >= 0;
                    if (second) {
                        Check.bad(5, text + "control ^" + again + " f;");
                        Check.bad(5, text + "control ^" + again + " g;");
                        Check.bad(5, text + "control ^" + again + " ?");
                        Check.bad(5, text + "control ^0" + again);
                    } else {
                        Check.legal(0, text + "control " + again + " g;");
                    }
                }
            }
        }
        // a control statement of the text before, or of a bad one, is none of this text
        Tabulator x = Check.machine(NAMES + "control 1 f;");
        Check.same("3 load", 0, Check.load(x, NAMES + "control 1 f;"));
        Check.same("3 load", -3, Check.load(x, NAMES + "control 2 f; ?"));
        Check.same("3 load", 0, Check.load(x, NAMES + "control 2 f;"));
        Check.same("24 level 1", -1, x.plugControl(1, -1));
        Check.same("24 level 2", 0, x.plugControl(2, -1));
    }

    // TEXT: the end

    private static final String[] TOKENS = {
        "field", "f", "1", "2", ";", "selector", "s", "3", "4", "delayed", ";", "selector", "t", "3", "10", ";",
        "counter", "c", "5", "f", "add", "unless", "s", ";", "counter", "d", "5", "f", "signed", ";", "control", "1", "f", ";",
        "list", "f", "1", ";", "total", "1", "c", "1", ";", "roll", "1", "c", "d", ";", "clear", "1", "c", ";",
        "punch", "1", "c", "1", ";", "punch", "1", "f", "1", ";", "card", "1", ";"};

    private static String before(int token) {
        StringBuilder text = new StringBuilder();
        for (int i = 0; i < token; i++) {
            text.append(TOKENS[i]).append(i % 2 == 0 ? " " : "\n");
        }
        return text.toString();
    }

    /** "if the text ends too early, the error is at the end and its position is the length of the text" */
    private static void textsThatEndTooEarly() {
        for (int end = 0; end <= TOKENS.length; end++) {
            boolean whole = end == 0 || TOKENS[end - 1].equals(";");
            String text = before(end);
            for (String cut : new String[] {text.trim(), text, text + " \n ", text + " ".repeat(100)}) {
                if (whole) {
                    Check.legal(end == TOKENS.length ? 1 : 0, cut);
                } else {
                    Check.bad(2, cut.length(), cut);
                }
            }
        }
    }

    /** "1 illegal token; 2 another token was expected": at every place of every statement */
    private static void wrongTokensEverywhere() {
        for (int place = 0; place < TOKENS.length; place++) {
            String text = before(place);
            for (String illegal : new String[] {"?", "A", "-", "\t", "\u00ff", "zzzzzzzzz"}) {
                Check.bad(1, text.length(), text + illegal + " ;");
            }
            boolean isCardToken = place > 0 && TOKENS[place - 1].equals("card");
            boolean isWord = Character.isLetter(TOKENS[place].charAt(0));
            boolean isNumber = Character.isDigit(TOKENS[place].charAt(0));
            if (isCardToken) {
                continue;
            }
            Check.bad(1, text.length(), text + "000 ;");
            if (!isNumber) {
                Check.bad(2, text.length(), text + "1 ;");
            }
            if (!isWord || TOKENS[place].length() > 1) {
                Check.bad(2, text.length(), text + "zz ;");
            }
            boolean mayEnd = TOKENS[place].equals(";") || TOKENS[place].equals("delayed") || TOKENS[place].equals("unless");
            if (!mayEnd) {
                Check.bad(2, text.length(), text + "; ;");
            }
        }
    }
}

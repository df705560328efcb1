/** Promises 1 to 5: a new object, the buffer, and how a text is read. */
public final class TextTest {
    private static final String[] RESERVED = {
        "field", "selector", "counter", "control", "list", "total", "roll", "clear", "punch", "card",
        "delayed", "add", "sub", "signed", "if", "unless"};
    private static final String NAMES = "field f 1 2; selector s 3 4; counter c 5 f add; ";

    private TextTest() {
    }

    public static void main(String[] args) {
        newObject();
        feed();
        feedOrderOfBytes();
        load();
        loadOutOfRange();
        loadResetsAndKeeps();
        nothingIsLeftOfTheTextBefore();
        bytesBehindTheLength();
        legalTexts();
        illegalTokens();
        otherTokens();
        numbersOutOfRange();
        names();
        limits();
        textsThatEndEarly();
        smallerKindFirst();
        everyPrefix();
        errorOfLatestLoad();
        Check.ends("TextTest");
    }

    private static void newObject() {
        Tabulator x = new Tabulator();
        Check.same("1 cardCount", 0, x.cardCount());
        Check.same("1 errorKind", 0, x.errorKind());
        Check.same("1 errorPosition", -1, x.errorPosition());
        Check.same("1 processed", 0, x.processed());
        Check.same("1 lineCount", 0, x.lineCount());
        Check.same("1 summaryCount", 0, x.summaryCount());
        Check.same("1 linesOfRun", 0, x.linesOfRun());
        for (int level = 1; level <= 3; level++) {
            Check.same("1 groups", 0, x.groups(level));
            Check.same("1 groupCount", 0, x.groupCount(level));
            Check.same("1 plugControl", -1, x.plugControl(level, -1));
        }
        Check.throwsIndex("1 column", () -> x.column(0, 1));
        Check.throwsIndex("1 mean", () -> x.mean(0));
        Check.throwsIndex("1 counter", () -> x.counter(0));
        Check.throwsIndex("1 isSelected", () -> x.isSelected(0));
        Check.throwsArgument("1 load of an empty buffer", () -> x.load(1));
        Check.same("1 load", 0, x.load(0));
        Check.same("1 run", 0, x.run(1));
        Check.same("1 finish", 0, x.finish());
        for (int slot = 0; slot < 3; slot++) {
            int saved = slot;
            Check.throwsState("1 restore", () -> x.restore(saved));
        }
        Check.same("NONE", -1, Tabulator.NONE);
        Check.same("FULL", -2, Tabulator.FULL);
        Check.same("BAD_TEXT", -3, Tabulator.BAD_TEXT);
    }

    private static void feed() {
        Tabulator x = new Tabulator();
        for (int i = 1; i <= 55; i++) {
            Check.same("2 feed", 20 * i, x.feed(0x20202020, 0x20202020, 0x20202020, 0x20202020, 0x20202020));
        }
        Check.same("2 feed beyond", -2, x.feed(0x3b3b3b3b, 0x3b3b3b3b, 0x3b3b3b3b, 0x3b3b3b3b, 0x3b3b3b3b));
        Check.same("2 feed beyond again", -2, x.feed(0, 0, 0, 0, 0));
        Check.throwsArgument("2 nothing was appended", () -> x.load(1101));
        Check.same("2 load of a full buffer", 0, x.load(1100));
        Check.same("2 feed into the emptied buffer", 20, x.feed(0, 0, 0, 0, 0));
    }

    private static void feedOrderOfBytes() {
        Tabulator x = new Tabulator();
        // "card 0123456789abx.;" and a byte above 127
        x.feed(0x63617264, 0x20303132, 0x33343536, 0x37383961, 0x62782e3b);
        x.feed(0xff000000, 0, 0, 0, 0);
        Check.same("2 load", -3, x.load(21));
        Check.same("2 errorKind", 1, x.errorKind());
        Check.same("2 errorPosition", 20, x.errorPosition());
        x.feed(0x63617264, 0x20303132, 0x33343536, 0x37383961, 0x62782e3b);
        Check.same("2 load", 1, x.load(20));
        Check.same("2 card", "0123456789abx", Check.card(x, 0));
    }

    private static void load() {
        Tabulator x = Check.machine("field f 1 3; card 12; card 0bx.5;\n\ncard j...................;");
        Check.same("3 cardCount", 3, x.cardCount());
        Check.same("3 cards", "12 0bx.5 j", Check.deck(x));
        Check.same("3 digit", 1, x.column(0, 1));
        Check.same("3 column behind the token", -1, x.column(0, 3));
        Check.same("3 digit with X", 101, x.column(1, 2));
        Check.same("3 X alone", 99, x.column(1, 3));
        Check.same("3 point", -1, x.column(1, 4));
        Check.same("3 last column", -1, x.column(2, 20));
        Check.same("3 the text is read up to its length alone", 20, Check.feedText(x, "card 1;card 2;card 3"));
        Check.same("3 load", 2, x.load(14));
        Check.throwsArgument("3 the buffer is empty then", () -> x.load(1));
        Check.same("3 load of no bytes", 0, x.load(0));
        Check.same("3 cardCount", 0, x.cardCount());
        Check.throwsIndex("3 no fields", () -> x.mean(0));
    }

    private static void loadOutOfRange() {
        Tabulator x = new Tabulator();
        Check.feedText(x, "card 1;card 22;     ");
        Check.throwsArgument("3 load", () -> x.load(-1));
        Check.throwsArgument("3 load", () -> x.load(21));
        Check.throwsArgument("3 load", () -> x.load(Integer.MIN_VALUE));
        Check.throwsArgument("3 load", () -> x.load(Integer.MAX_VALUE));
        Check.same("3 the buffer keeps its bytes", 2, x.load(20));
        Check.same("3 deck", "1 22", Check.deck(x));
    }

    private static void loadResetsAndKeeps() {
        Tabulator x = Check.machine("field f 1 1; counter c 3 f add; list f 1; control 1 f; punch 1 c 1; card 1; card 2;");
        x.save(1);
        x.finish();
        Check.same("3 load of a bad text", -3, Check.load(x, "field g 1 1; card 5; card"));
        Check.throwsArgument("3 the buffer is empty then", () -> x.load(1));
        Check.same("3 the deck stays", "1 2", Check.deck(x));
        Check.same("3 the machine stays", 2, x.processed());
        Check.same("3 the lines stay", 2, x.lineCount());
        Check.same("3 the counter stays", 3, x.counter(0));
        Check.throwsState("3 the machine is finished", () -> x.run(1));
        Check.same("3 load", 1, Check.load(x, "field g 1 1; field h 2 2; card 56;"));
        Check.same("3 reset", 0, x.processed());
        Check.same("3 reset", 0, x.lineCount());
        Check.same("3 reset", 0, x.summaryCount());
        Check.same("3 reset", 0, x.groups(1));
        Check.throwsIndex("3 no counter", () -> x.counter(0));
        Check.same("3 no control field", -1, x.plugControl(1, 0));
        Check.same("3 run", 1, x.run(1));
        Check.same("3 no list", 0, x.lineCount());
        Check.same("3 a new plugboard", 6L, x.fieldValue(0, 1));
        Check.same("3 saved machines stay", 2, x.restore(1));
        Check.same("3 deck", "1 2", Check.deck(x));
    }

    private static void nothingIsLeftOfTheTextBefore() {
        Tabulator x = Check.machine(NAMES + "control 2 f;list f 1;total 1 c 1;total 3 c 1;roll 1 c c;clear 1 c;punch 1 c 1;card 12;card 34;");
        Check.same("3 finish", 2 + 3, x.finish());
        Check.same("3 load", 2, Check.load(x, "selector c 1 1;field s 1 2;counter f 5 s add;card 12;card 34;"));
        Check.same("3 no list, no total", 0, x.finish());
        Check.same("3 no punch", 0, x.summaryCount());
        Check.same("3 no control", 1, x.groups(2));
        Check.same("3 no roll, no clear", 46, x.counter(0));
        Check.same("3 load", -3, Check.load(x, NAMES + "control 1 f;list f 1;total 1 c 1;punch 1 c 1;card 1;card 2"));
        Check.same("3 load", 1, Check.load(x, NAMES + "card 12;"));
        Check.same("3 nothing is left of a bad text", 0, x.finish());
        Check.same("3 nothing is left of a bad text", 12, x.counter(0));
    }

    /** What stands in the buffer behind the text makes no token longer. */
    private static void bytesBehindTheLength() {
        String[] texts = {"card 1", "card 12;fiel", "field f 1", "field f 1 1", "field f", "card"};
        String[] behind = {"2;", "d", "2", "2;", "g", "x"};
        int[] kinds = {2, 2, 2, 2, 2, 2};
        int[] positions = {6, 8, 9, 11, 7, 4};
        for (int i = 0; i < texts.length; i++) {
            Tabulator x = new Tabulator();
            Check.feedText(x, texts[i] + behind[i] + "                    ");
            Check.same("3 load of " + texts[i], -3, x.load(texts[i].length()));
            Check.same("4 errorKind of " + texts[i], kinds[i], x.errorKind());
            Check.same("5 errorPosition of " + texts[i], positions[i], x.errorPosition());
        }
        Tabulator y = new Tabulator();
        Check.feedText(y, "field f 1 1 123456789");
        y.load(13);
        Check.same("4 errorKind", 2, y.errorKind());
        Check.same("5 errorPosition", 12, y.errorPosition());
    }

    private static void legalTexts() {
        Check.legal(0, "");
        Check.legal(0, " \n \n");
        Check.legal(1, "card1;");
        Check.legal(1, "\n card\n1a;\n");
        Check.legal(2, "card x;card.;");
        Check.legal(1, "card 01234567890123456789;");
        Check.legal(0, "field f1 9;");
        Check.legal(0, "field abcdefgh 12 20;field i 20 20;");
        Check.legal(0, "field f 01 09;");
        Check.legal(0, "field cards 1 1;field fields 1 1;field x 1 1;field a 1 1;");
        Check.legal(0, "field f 1 1;selector s 20 0;selector t 1 10 delayed;");
        Check.legal(0, "field f 1 1;selector s 1 1;counter c 9 f add;counter d 1 f sub if s;counter e 5 f signed unless s;");
        Check.legal(0, NAMES + "control 3 f;control 1 f;control 2 f;list f 40;list f 1;");
        Check.legal(0, NAMES + "total 1 c 40;total 3 c 1;roll 2 c c;clear 1 c;punch 1 f 20;punch 2 c 1;");
        Check.legal(0, "field f 1 1;selector s 1 1;counter c 1 f add\nunless\ns\n;");
    }

    private static void illegalTokens() {
        Check.bad(1, "^?");
        Check.bad(1, "^Field f 1 1;");
        Check.bad(1, "field f^\t1 1;");
        Check.bad(1, "^\u00e9");
        Check.bad(1, "^\0");
        Check.bad(1, "^abcdefghi f 1 1;");
        Check.bad(1, "^fieldfield f 1 1;");
        Check.bad(1, "field ^abcdefghi 1 1;");
        Check.bad(1, "field f ^001 1;");
        Check.bad(1, "field f 1 ^100;");
        Check.bad(1, "field f 1 1^.;");
        Check.bad(1, "field f 1 ^-1;");
        Check.bad(1, "card ^;");
        Check.bad(1, "card ^k;");
        Check.bad(1, "card ^?;");
        Check.bad(1, "card ^012345678901234567890;");
        Check.bad(1, "card ^....................x;");
        Check.bad(1, "card 1^?");
        Check.bad(1, "card 1 ^?");
        Check.bad(1, NAMES + "list ^longerthan 1;");
        Check.bad(1, NAMES + "counter d 3 f ^:");
        Check.bad(1, NAMES + "counter d 3 f add ^:");
        Check.bad(1, NAMES + "selector t 3 3 ^:");
        Check.bad(1, NAMES + "control ^123 f;");
        Check.bad(1, "card 1^klmnopqrst;");
    }

    private static void otherTokens() {
        Check.bad(2, "^;");
        Check.bad(2, "^1");
        Check.bad(2, "^cards 1;");
        Check.bad(2, "^carda;");
        Check.bad(2, "^x;");
        Check.bad(2, "card 1;^;");
        Check.bad(2, "field ^1 1 1;");
        Check.bad(2, "field ^; ");
        Check.bad(2, "field f ^a;");
        Check.bad(2, "field f 1 ^;");
        Check.bad(2, "field f 1 1 ^1;");
        Check.bad(2, "field f 1 1 ^card 1;");
        Check.bad(2, "card 1 ^1;");
        Check.bad(2, "card 12^z;");
        Check.bad(2, "card ab^k;");
        Check.bad(2, "card 1 ^a;");
        Check.bad(2, "selector s 1 1 ^if;");
        Check.bad(2, "selector s 1 1 ^late;");
        Check.bad(2, "selector s 1 1 ^1;");
        Check.bad(2, "selector s 1 1 delayed ^delayed;");
        Check.bad(2, "selector s 1 ^delayed;");
        Check.bad(2, NAMES + "counter d 1 f ^;");
        Check.bad(2, NAMES + "counter d 1 f ^if s;");
        Check.bad(2, NAMES + "counter d 1 f ^s;");
        Check.bad(2, NAMES + "counter d 1 f ^1;");
        Check.bad(2, NAMES + "counter d 1 f add ^add;");
        Check.bad(2, NAMES + "counter d 1 f add ^s;");
        Check.bad(2, NAMES + "counter d 1 f add ^1;");
        Check.bad(2, NAMES + "counter d 1 f add if ^;");
        Check.bad(2, NAMES + "counter d 1 f add if s ^unless s;");
        Check.bad(2, NAMES + "counter d ^f 1 add;");
        Check.bad(2, NAMES + "control ^f 1;");
        Check.bad(2, NAMES + "control 1 ^1;");
        Check.bad(2, NAMES + "control 1 f ^1;");
        Check.bad(2, NAMES + "list ^1 f;");
        Check.bad(2, NAMES + "list f ^;");
        Check.bad(2, NAMES + "list f 1 ^f;");
        Check.bad(2, NAMES + "total 1 ^1 c;");
        Check.bad(2, NAMES + "total 1 c ^;");
        Check.bad(2, NAMES + "roll 1 c ^;");
        Check.bad(2, NAMES + "roll 1 c c ^c;");
        Check.bad(2, NAMES + "clear 1 ^;");
        Check.bad(2, NAMES + "clear 1 c ^1;");
        Check.bad(2, NAMES + "punch 1 c ^;");
        Check.bad(2, NAMES + "punch 1 ^1 1;");
        Check.bad(2, NAMES + "punch 1 c 1 ^1;");
        for (String word : RESERVED) {
            Check.bad(2, "field ^" + word + " 1 1;");
            Check.bad(2, "selector ^" + word + " 1 1;");
            Check.bad(2, "field f 1 1; counter ^" + word + " 1 f add;");
            Check.bad(2, NAMES + "list ^" + word + " 1;");
            Check.bad(2, NAMES + "counter d 1 ^" + word + " add;");
            Check.bad(2, NAMES + "counter d 1 f add if ^" + word + ";");
            Check.bad(2, NAMES + "punch 1 ^" + word + " 1;");
        }
        for (String word : new String[] {"delayed", "add", "sub", "signed", "if", "unless"}) {
            Check.bad(2, "^" + word + " f 1 1;");
        }
    }

    private static void numbersOutOfRange() {
        Check.bad(3, "field f ^0 1;");
        Check.bad(3, "field f ^21 21;");
        Check.bad(3, "field f ^99 1;");
        Check.bad(3, "field f 2 ^1;");
        Check.bad(3, "field f 20 ^21;");
        Check.bad(3, "field f 13 ^21;");
        Check.bad(3, "field f 1 ^10;");
        Check.bad(3, "field f 11 ^20;");
        Check.bad(3, "selector s ^0 1;");
        Check.bad(3, "selector s ^21 1;");
        Check.bad(3, "selector s 1 ^11;");
        Check.bad(3, NAMES + "counter d ^0 f add;");
        Check.bad(3, NAMES + "counter d ^10 f add;");
        for (String kind : new String[] {"control", "total", "roll", "clear", "punch"}) {
            Check.bad(3, NAMES + kind + " ^0 c 1;");
            Check.bad(3, NAMES + kind + " ^4 c 1;");
        }
        Check.bad(3, NAMES + "list f ^0;");
        Check.bad(3, NAMES + "list f ^41;");
        Check.bad(3, NAMES + "total 1 c ^0;");
        Check.bad(3, NAMES + "total 1 c ^41;");
        Check.bad(3, NAMES + "punch 1 c ^0;");
        Check.bad(3, NAMES + "punch 1 f ^21;");
    }

    private static void names() {
        for (String name : new String[] {"f", "s", "c"}) {
            Check.bad(4, NAMES + "field ^" + name + " 1 1;");
            Check.bad(4, NAMES + "selector ^" + name + " 1 1;");
            Check.bad(4, NAMES + "counter ^" + name + " 1 f add;");
        }
        for (String name : new String[] {"s", "c", "g", "ff", "fields"}) {
            Check.bad(4, NAMES + "control 1 ^" + name + ";");
            Check.bad(4, NAMES + "list ^" + name + " 1;");
            Check.bad(4, NAMES + "counter d 1 ^" + name + " add;");
        }
        for (String name : new String[] {"f", "c", "d", "g"}) {
            Check.bad(4, NAMES + "counter d 1 f add if ^" + name + ";");
            Check.bad(4, NAMES + "counter d 1 f add unless ^" + name + ";");
        }
        for (String name : new String[] {"f", "s", "g"}) {
            Check.bad(4, NAMES + "total 1 ^" + name + " 1;");
            Check.bad(4, NAMES + "roll 1 ^" + name + " c;");
            Check.bad(4, NAMES + "roll 1 c ^" + name + ";");
            Check.bad(4, NAMES + "clear 1 ^" + name + ";");
        }
        Check.bad(4, NAMES + "punch 1 ^s 1;");
        Check.bad(4, NAMES + "punch 1 ^g 1;");
        Check.bad(4, "counter c 1 ^c add;");
        Check.bad(4, "list ^f 1; field f 1 1;");
    }

    private static void limits() {
        String fields = Check.repeated("field # 1 1;", 8);
        Check.legal(0, fields);
        Check.bad(5, fields + "^field i 1 1;");
        Check.bad(5, fields + " ^field 99");
        String selectors = Check.repeated("selector # 1 1;", 6);
        Check.legal(0, selectors);
        Check.bad(5, selectors + "^selector i 1 1;");
        String counters = "field f 1 1;" + Check.repeated("counter y# 1 f add;", 6);
        Check.legal(0, counters);
        Check.bad(5, counters + "^counter i 1 f add;");
        Check.legal(0, NAMES + Check.repeated("list f 1;", 12));
        Check.bad(5, NAMES + Check.repeated("list f 1;", 12) + "^list f 1;");
        Check.legal(0, NAMES + Check.repeated("total 1 c 1;", 12));
        Check.bad(5, NAMES + Check.repeated("total 1 c 1;", 12) + "^total 1 c 1;");
        Check.legal(0, NAMES + Check.repeated("roll 1 c c;", 8));
        Check.bad(5, NAMES + Check.repeated("roll 1 c c;", 8) + "^roll 1 c c;");
        Check.legal(0, NAMES + Check.repeated("clear 1 c;", 8));
        Check.bad(5, NAMES + Check.repeated("clear 1 c;", 8) + "^clear 1 c;");
        Check.legal(0, NAMES + Check.repeated("punch 1 c 1;", 8));
        Check.bad(5, NAMES + Check.repeated("punch 1 c 1;", 8) + "^punch 1 c 1;");
        Check.legal(40, Check.repeated("card 1;", 40));
        Check.bad(5, Check.repeated("card 1;", 40) + "^card 1;");
        Check.bad(5, Check.repeated("card 1;", 40) + "^card");
        for (int level = 1; level <= 3; level++) {
            Check.bad(5, NAMES + "control " + level + " f; control ^" + level + " f;");
            Check.bad(5, NAMES + "control " + level + " f; control ^" + level);
        }
        String all = Check.repeated("field # 1 1;", 8) + Check.repeated("selector s# 1 1;", 6) + Check.repeated("counter c# 1 a add;", 6);
        Check.legal(0, all + "list h 1; total 1 cf 1;");
    }

    private static void textsThatEndEarly() {
        Check.bad(2, "field^");
        Check.bad(2, "field \n ^");
        Check.bad(2, "field f^");
        Check.bad(2, "field f 1 ^");
        Check.bad(2, "field f 1 1 ^");
        Check.bad(2, "card^");
        Check.bad(2, "card ^");
        Check.bad(2, "card \n^");
        Check.bad(2, "card 1^");
        Check.bad(2, "card 01234567890123456789 ^");
        Check.bad(2, "selector s 1 1 ^");
        Check.bad(2, "selector s 1 1 delayed^");
        Check.bad(2, NAMES + "counter d 1 f ^");
        Check.bad(2, NAMES + "counter d 1 f add ^");
        Check.bad(2, NAMES + "counter d 1 f add if^");
        Check.bad(2, NAMES + "counter d 1 f add if s^");
    }

    private static void smallerKindFirst() {
        Check.bad(1, Check.repeated("field # 1 1;", 8) + "^fieldfield i 1 1;");
        Check.bad(2, NAMES + "control 1 f; control ^f f;");
        Check.bad(3, NAMES + "control 1 f; control ^4 f;");
        Check.bad(2, NAMES + "list ^if 1;");
        Check.bad(4, Check.repeated("field # 1 1;", 8) + "selector ^a 1 1;");
        Check.bad(4, NAMES + "list ^g 1; ?");
        Check.bad(3, "field f ^0 0;");
    }

    /** Each part of a legal text, cut at each byte, is legal only where a statement ends. */
    private static void everyPrefix() {
        String text = "field f 1 2;selector s 3 4 delayed;counter c 5 f add unless s;control 1 f;list f 1;card 1;";
        Tabulator x = null;
        for (int length = 0; length <= text.length(); length++) {
            // An object is used for some hundred calls at most.
            if (length % 30 == 0) {
                x = new Tabulator();
            }
            String part = text.substring(0, length);
            boolean legal = length == 0 || part.endsWith(";");
            Check.same("3 load of " + part, legal ? (length == text.length() ? 1 : 0) : -3, Check.load(x, part));
        }
    }

    private static void errorOfLatestLoad() {
        Tabulator x = new Tabulator();
        Check.load(x, "card 1; card ?;");
        Check.same("4 errorKind", 1, x.errorKind());
        Check.same("5 errorPosition", 13, x.errorPosition());
        Check.throwsArgument("4 load that throws", () -> x.load(1));
        Check.same("4 errorKind stays", 1, x.errorKind());
        Check.same("5 errorPosition stays", 13, x.errorPosition());
        x.save(0);
        x.reset();
        Check.load(x, "card 1;");
        Check.same("4 errorKind", 0, x.errorKind());
        Check.same("5 errorPosition", -1, x.errorPosition());
        Check.load(x, "field a 0 0;");
        Check.same("4 errorKind", 3, x.errorKind());
        Check.same("5 errorPosition", 8, x.errorPosition());
        x.restore(0);
        x.reset();
        Check.same("4 errorKind after restore", 3, x.errorKind());
        Check.same("5 errorPosition after restore", 8, x.errorPosition());
        Check.load(x, ";");
        Check.same("5 errorPosition at the first byte", 0, x.errorPosition());
    }
}

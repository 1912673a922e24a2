import java.util.function.LongSupplier;

/** For each promise what is ordinary, the edges that the document names, and what is refused. */
public final class PromisesTest {
    private static final int BAD = 0, NO = 1, FULL = 2;
    private static int made = 0;
    private static int wrong = 0;

    public static void main(String[] args) {
        promise01NewObject();
        promise02Code();
        promise03Entry();
        promise04Told();
        promise05Draughts();
        promise06Type();
        promise07Clear();
        promise08Read();
        promise08Faults();
        promise08Tokens();
        promise09Say();
        promise10Seen();
        promise11ReadsByKinds();
        promise11Reads();
        promise12Otherwise();
        promise13Utter();
        promise14Uses();
        promise15Year();
        promise16Undo();
        promise16NothingMayBeUndone();
        promise17Want();
        promise18Forget();
        promise19Hide();
        promise20Save();
        promise21Safe();
        promise22Fact();
        promise23MayBe();
        promise24Heat();
        promise25Image();
        promise26From();
        promise27Status();
        promise28Count();
        promise29Digest();
        System.out.println("promises: " + made + " answers looked at, " + wrong + " wrong");
        if (wrong != 0) {
            System.exit(1);
        }
    }

    private static void due(String call, long got, long want) {
        made++;
        if (got != want) {
            wrong++;
            System.out.println(call + " answered " + got + ", due is " + want);
        }
    }

    /** The call is refused: it answers so, one more is counted as that, and nothing else is changed. */
    private static void refused(FanTalk x, String call, LongSupplier made, long answer, int as) {
        long digest = x.digest();
        int[] before = {x.status(BAD), x.status(NO), x.status(FULL)};
        due(call, made.getAsLong(), answer);
        before[as]++;
        due(call + ", STATUS of BAD", x.status(BAD), before[BAD]);
        due(call + ", STATUS of NO", x.status(NO), before[NO]);
        due(call + ", STATUS of FULL", x.status(FULL), before[FULL]);
        due(call + ", the digest", x.digest(), digest);
    }

    /** The number of a row. */
    private static int row(int... states) {
        int row = 1;
        for (int s : states) {
            row = row * 12 + s;
        }
        return row;
    }

    private static FanTalk text(String told) {
        return type(new FanTalk(), told);
    }

    private static FanTalk type(FanTalk x, String told) {
        x.clear();
        for (int at = 0; at < told.length(); at += 8) {
            int n = Math.min(8, told.length() - at);
            long v = 0;
            for (int i = 0; i < n; i++) {
                v = v << 8 | told.charAt(at + i);
            }
            due("type of '" + told + "'", x.type(v, n), at + n);
        }
        return x;
    }

    /** A new object whose codes are read of a text. */
    private static FanTalk codes(String told) {
        FanTalk x = text(told);
        int read = x.read();
        due("read of '" + told + "' is no fault", read >= 0 ? 1 : read, 1);
        return x;
    }

    private static void fault(String told, int place) {
        FanTalk x = codes("code;entry 0 3 7 8;draught 9;");
        x.say(row(1, 2));
        x.utter(0);
        type(x, told);
        long digest = x.digest();
        due("read of '" + told + "'", x.read(), -10 - place);
        due("the digest behind a fault in '" + told + "'", x.digest(), digest);
        due("STATUS behind a fault", x.status(BAD) + x.status(NO) + x.status(FULL), 0);
    }

    /** What is read of the saying: the words' figures, one behind the other; 0 if none is. */
    private static void read(FanTalk x, int kind, int code, String words) {
        due("how many are read by " + kind + ", " + code, x.reads(kind, code, -1), words.length());
        for (int i = 0; i < words.length(); i++) {
            due("reads(" + kind + ", " + code + ", " + i + ")", x.reads(kind, code, i), words.charAt(i) - '0');
        }
        due("behind what is read", x.reads(kind, code, words.length()), -5);
    }

    private static void promise01NewObject() {
        FanTalk x = new FanTalk();
        for (int what = 0; what < 8; what++) {
            due("count(" + what + ") of a new object", x.count(what), 0);
        }
        for (int word = 0; word < 10; word++) {
            due("uses of a new object", x.uses(word), 0);
        }
        for (int what = 0; what < 3; what++) {
            due("status of a new object", x.status(what), 0);
        }
        due("one object is not the other", new FanTalk().code() + x.code(), 0);
    }

    private static void promise02Code() {
        FanTalk x = new FanTalk();
        for (int i = 0; i < 3; i++) {
            due("code()", x.code(), i);
            due("codes", x.count(0), i + 1);
        }
        refused(x, "a 4th code", x::code, FanTalk.FULL, FULL);
        x = codes("code;entry 0 1 2;");
        x.code();
        due("a new code is empty", x.count(1), 1);
        due("its first entry", x.entry(1, 5, 14), 0);
    }

    private static void promise03Entry() {
        FanTalk x = new FanTalk();
        refused(x, "an entry of no code", () -> x.entry(0, 0, 12), FanTalk.BAD, BAD);
        x.code();
        refused(x, "an entry of code -1", () -> x.entry(-1, 0, 12), FanTalk.BAD, BAD);
        refused(x, "an entry of code 1", () -> x.entry(1, 0, 12), FanTalk.BAD, BAD);
        refused(x, "word -1", () -> x.entry(0, -1, 12), FanTalk.BAD, BAD);
        refused(x, "word 10", () -> x.entry(0, 10, 12), FanTalk.BAD, BAD);
        int[] noRows = {Integer.MIN_VALUE, -12, -1, 0, 1, 11, 24, 143, 288, 1727, 3456, 20736, Integer.MAX_VALUE};
        for (int row : noRows) {
            refused(x, "row " + row, () -> x.entry(0, 0, row), FanTalk.BAD, BAD);
        }
        int[] rows = {12, 23, 144, 287, 1728, 3455, row(0, 11), row(11, 0, 11)};
        for (int i = 0; i < 8; i++) {
            due("entry of " + rows[i], x.entry(0, 9 - i, rows[i]), i);
            refused(x, "the same row", () -> x.entry(0, 3, 12), FanTalk.NO, NO);
        }
        refused(x, "a 9th entry", () -> x.entry(0, 0, 13), FanTalk.FULL, FULL);
        refused(x, "a 9th entry of a row it has", () -> x.entry(0, 0, 3455), FanTalk.NO, NO);
        refused(x, "a 9th entry that is bad", () -> x.entry(0, 0, 24), FanTalk.BAD, BAD);
        x.code();
        due("another code may have that row", x.entry(1, 9, 12), 0);
    }

    private static void promise04Told() {
        FanTalk x = codes("code;code;entry 0 7 11 0;entry 0 9 3;entry 1 2 4 5 6;");
        due("row", x.told(0, 0, 0), row(11, 0));
        due("word", x.told(0, 0, 1), 7);
        due("row", x.told(0, 1, 0), row(3));
        due("word", x.told(0, 1, 1), 9);
        due("row", x.told(1, 0, 0), row(4, 5, 6));
        due("word", x.told(1, 0, 1), 2);
        int[][] bad = {{-1, 0, 0}, {2, 0, 0}, {0, -1, 0}, {0, 2, 0}, {1, 1, 1}, {0, 0, -1}, {0, 0, 2}};
        for (int[] b : bad) {
            refused(x, "told", () -> x.told(b[0], b[1], b[2]), FanTalk.BAD, BAD);
        }
    }

    private static void promise05Draughts() {
        FanTalk x = new FanTalk();
        due("draughts(63)", x.draughts(63), 0);
        due("draughts(1)", x.draughts(1), 63);
        refused(x, "draughts(64)", () -> x.draughts(64), FanTalk.BAD, BAD);
        refused(x, "draughts(-1)", () -> x.draughts(-1), FanTalk.BAD, BAD);
        due("draughts(0)", x.draughts(0), 1);
        due("draughts(0)", x.draughts(0), 0);
    }

    private static void promise06Type() {
        FanTalk x = new FanTalk();
        refused(x, "type(0, 0)", () -> x.type(0, 0), FanTalk.BAD, BAD);
        refused(x, "type(0, 9)", () -> x.type(0, 9), FanTalk.BAD, BAD);
        refused(x, "type(0, -1)", () -> x.type(0, -1), FanTalk.BAD, BAD);
        for (int i = 1; i <= 31; i++) {
            due("type 8", x.type(0x2020202020202020L, 8), 8 * i);
        }
        refused(x, "251 bytes", () -> x.type(0, 3), FanTalk.FULL, FULL);
        due("250 bytes", x.type(0x2020, 2), 250);
        refused(x, "251 bytes", () -> x.type(32, 1), FanTalk.FULL, FULL);
        refused(x, "type(0, 9) of a full text", () -> x.type(0, 9), FanTalk.BAD, BAD);
        due("nothing but blanks", x.read(), 0);
        // "code;" with other bytes above it, that are not asked for
        FanTalk y = new FanTalk();
        due("type", y.type(0xFFFFFF636F64653BL, 5), 5);
        due("read", y.read(), 1);
        due("type of a byte above 127", y.type(0x8000000000000000L, 8), 13);
        due("it begins no token", y.read(), -15);
    }

    private static void promise07Clear() {
        FanTalk x = text("code;");
        due("clear()", x.clear(), 5);
        due("clear()", x.clear(), 0);
        due("bytes", x.count(6), 0);
        due("read of nothing", x.read(), 0);
    }

    private static void promise08Read() {
        FanTalk x = codes("code;entry 0 1 2;draught 5;");
        x.say(row(2));
        x.utter(0);
        due("read again", x.read(), 3);
        due("uses are those of new codes", x.uses(1), 0);
        due("nothing may be undone", x.count(5), 0);
        due("the text stays", x.count(6), 27);
        due("the saying stays", x.count(2), 1);
        type(x, "code;code;entry 1 9 11 10 9;entry 1 8 0 0;entry 0 7 3;");
        due("read", x.read(), 5);
        due("codes", x.count(0), 2);
        due("entries", x.count(1), 3);
        due("draughts that are not told are none", x.count(7), 0);
        due("row", x.told(1, 0, 0), row(11, 10, 9));
        due("word", x.told(1, 0, 1), 9);
        due("row", x.told(1, 1, 0), row(0, 0));
        due("row", x.told(0, 0, 0), row(3));
        type(x, "draught 63;draught 6;");
        due("read", x.read(), 2);
        due("the last set", x.count(7), 6);
        due("no codes", x.count(0), 0);
        x.code();
        x.clear();
        due("an empty text", x.read(), 0);
        due("no codes", x.count(0), 0);
        due("three codes, eight entries each", full().count(1), 24);
    }

    /** All that fits: told in two texts' worth of calls. */
    private static FanTalk full() {
        FanTalk x = codes("code;code;code;entry 0 0 0;entry 0 0 1;entry 0 0 2;entry 0 0 3;entry 0 0 4;entry 0 0 5;"
                + "entry 0 0 6;entry 0 0 7;");
        for (int code = 1; code < 3; code++) {
            for (int i = 0; i < 8; i++) {
                due("entry", x.entry(code, i, 12 + i), i);
            }
        }
        return x;
    }

    private static void promise08Faults() {
        fault("code;code;code;code;", 15);
        fault("code;code;code; code", 16);
        fault("entry 0 0 0;", 6);
        fault("code;entry 1 0 0;", 11);
        fault("code;entry 0 10 0;", 13);
        fault("code;entry 0 0 12;", 15);
        fault("code;entry 0 0 0 12;", 17);
        fault("code;entry 0 0 0 0 12;", 19);
        fault("code;entry 0 0;", 14);
        fault("code;entry 0;", 12);
        fault("code;entry;", 10);
        fault("code;entry code", 11);
        fault("code;entry 0 0 0 0 0 0;", 21);
        fault("code;entry 0 0 0 0 0 99;", 21);
        fault("code;entry 0 0 0;entry 0 1 0;", 28);
        fault("code;entry 0 0 0;entry 0 1 00 ;", 30);
        fault("code;entry 0 0 0;entry 0 1 0", 28);
        fault("code;entry 0 0 0;entry 0 0 1;entry 0 0 2;entry 0 0 3;entry 0 0 4;entry 0 0 5;entry 0 0 6;"
                + "entry 0 0 7;entry 0 0 8;", 107);
        fault("draught 64;", 8);
        fault("draught 063;", 8);
        fault("draught 1 2;", 10);
        fault("draught;", 7);
        fault("draught 63", 10);
        fault("draught 63 ", 11);
        fault("code", 4);
        fault("code  ", 6);
        fault("codes;", 0);
        fault("cod;", 0);
        fault("mode;", 0);
        fault("codez;", 0);
        fault("acode;", 0);
        fault("cod", 0);
        fault("Code;", 0);
        fault("codE;", 0);
        fault("codeE;", 4);
        fault("code;;", 5);
        fault(";", 0);
        fault("7;", 0);
        fault("123;", 0);
        fault("code 1;", 5);
        fault("code code;", 5);
        fault("codecode;", 0);
        fault("code;\n", 5);
        fault("code;entry 0 0 \t0;", 15);
        fault("code;entry 0 0 0,", 16);
        fault("code;entry 0 000 0;", 13);
        fault("code;entry 000 0 0;", 11);
        fault("code;entry 0 0 001;", 15);
        fault("code;entry 0 0 4294967296;", 15);
        fault("code;entry -1 0 0;", 11);
        fault("draught " + (char) 255, 8);
        fault("" + (char) 0, 0);
    }

    private static void promise08Tokens() {
        FanTalk x = text("  code ; entry0 05   11  0 00;draught07;code;");
        due("blanks, and none where none is needed", x.read(), 4);
        due("row", x.told(0, 0, 0), row(11, 0, 0));
        due("word", x.told(0, 0, 1), 5);
        due("draughts", x.count(7), 7);
        due("codes", x.count(0), 2);
        due("an entry of a code behind it", text("code;entry 1 0 0;code;").read(), -21);
        due("blanks alone", text("   ").read(), 0);
        type(x, "draught 63;");
        type(x, "draught 6");
        due("what was cleared is not read", x.read(), -19);
        type(x, "codes;");
        type(x, "code");
        due("what was cleared is not read", x.read(), -14);
        due("one row in two codes", text("code;code;entry 0 1 5;entry 1 1 5;").read(), 4);
    }

    private static void promise09Say() {
        FanTalk x = new FanTalk();
        int[] rows = {row(0), row(11), row(0, 3), row(4, 7, 5), row(9, 11, 8, 6), row(0, 2, 4, 6, 8),
            row(10, 8, 6, 4, 2, 0), row(0, 0, 0, 0, 0, 0), row(11, 11, 11, 11, 11, 11)};
        int[] beats = {1, 1, 2, 3, 4, 5, 6, 6, 6};
        for (int i = 0; i < rows.length; i++) {
            due("say(" + rows[i] + ")", x.say(rows[i]), beats[i]);
            due("beats", x.count(2), beats[i]);
        }
        int[] bad = {Integer.MIN_VALUE, -1, 0, 1, 11, 24, 143, 288, 41472, 248831, 2985983, 5971968, 35831808,
            Integer.MAX_VALUE};
        for (int row : bad) {
            refused(x, "say(" + row + ")", () -> x.say(row), FanTalk.BAD, BAD);
        }
        int[] unlawful = {row(0, 4), row(11, 6), row(5, 1), row(0, 2, 6), row(0, 0, 0, 0, 0, 4), row(3, 7, 7)};
        for (int row : unlawful) {
            refused(x, "say(" + row + ")", () -> x.say(row), FanTalk.NO, NO);
        }
        due("the saying is still there", x.seen(5), 11);
    }

    private static void promise10Seen() {
        FanTalk x = new FanTalk();
        due("seen(0) of no saying", x.seen(0), FanTalk.NONE);
        refused(x, "seen(-1)", () -> x.seen(-1), FanTalk.BAD, BAD);
        x.say(row(0, 3, 5, 7, 9, 11));
        int[] made = {0, 3, 5, 7, 9, 11};
        int[] drawn = {2, 5, 7, 9, 11, 11};
        for (int set = 0; set < 64; set++) {
            x.draughts(set);
            for (int i = 0; i < 6; i++) {
                due("seen(" + i + ") in " + set, x.seen(i), (set >> i) % 2 == 1 ? drawn[i] : made[i]);
            }
        }
        due("seen(6)", x.seen(6), FanTalk.NONE);
        due("seen, far off", x.seen(Integer.MAX_VALUE), FanTalk.NONE);
        refused(x, "seen, far below", () -> x.seen(Integer.MIN_VALUE), FanTalk.BAD, BAD);
        x.say(row(10));
        due("open 5 stays", x.seen(0), 10);
        due("a shorter saying", x.seen(1), FanTalk.NONE);
        due("NONE is not refused", x.status(BAD), 2);
    }

    private static void promise11ReadsByKinds() {
        FanTalk x = codes("code;entry 0 1 0;entry 0 2 0 0;entry 0 3 0 0 0;entry 0 4 1;entry 0 5 1 0;entry 0 6 10;"
                + "entry 0 7 8;entry 0 8 11;");
        x.say(row(0, 0, 0, 0, 0, 1));
        read(x, 0, 0, "324");
        read(x, 1, 0, "111114");
        read(x, 2, 0, "22");
        read(x, 3, 0, "444441");
        read(x, 4, 0, "22");
        x.say(row(8, 10, 10, 11, 10, 8));
        read(x, 0, 0, "766867");
        read(x, 1, 0, "766867");
        read(x, 2, 0, "7686");
        read(x, 3, 0, "8868");
        read(x, 4, 0, "777");
        x.say(row(9, 11));
        read(x, 4, 0, "");
        FanTalk y = codes("code;entry 0 1 7;entry 0 2 9;entry 0 3 11;entry 0 4 6;");
        y.say(row(9, 11));
        read(y, 4, 0, "22");
        y.say(row(7, 6));
        read(y, 4, 0, "14");
        // an open 5 that comes by a draught is 4 to the aunt, too
        x.say(row(8, 8));
        x.draughts(1);
        read(x, 0, 0, "67");
        read(x, 4, 0, "77");
        x.draughts(0);
        // entries that are not lawful are read where draughts made them
        x = codes("code;entry 0 1 2 6;entry 0 2 2;entry 0 3 6;");
        x.say(row(2, 4));
        read(x, 0, 0, "2");
        x.draughts(2);
        read(x, 0, 0, "1");
        read(x, 1, 0, "23");
        // from beat 0 on: what begins earlier is taken, though a later one is longer
        x = codes("code;entry 0 1 0 2;entry 0 2 2 4 6;entry 0 3 6;");
        x.say(row(0, 2, 4, 6));
        read(x, 0, 0, "13");
        // none begins on what is blind, and none goes over it
        x = codes("code;entry 0 1 0;entry 0 2 0 0 0;entry 0 3 0 0;");
        x.say(row(0, 0, 0));
        read(x, 2, 0, "3");
        x.say(row(2, 2, 0));
        read(x, 2, 0, "");
        x.say(row(2, 2, 0, 0, 0));
        read(x, 2, 0, "3");
        read(x, 0, 0, "2");
    }

    private static void promise11Reads() {
        FanTalk x = new FanTalk();
        refused(x, "reads by no code", () -> x.reads(0, 0, -1), -10, BAD);
        x.code();
        due("of no saying", x.reads(0, 0, -1), 0);
        due("of no saying", x.reads(0, 0, 0), -5);
        x.entry(0, 9, 12);
        x.say(row(0, 0));
        read(x, 0, 0, "99");
        due("far behind", x.reads(0, 0, Integer.MAX_VALUE), -5);
        int[][] bad = {{-1, 0, 0}, {5, 0, 0}, {0, -1, 0}, {0, 1, 0}, {0, 0, -2}, {0, 0, Integer.MIN_VALUE}};
        for (int[] b : bad) {
            refused(x, "reads", () -> x.reads(b[0], b[1], b[2]), -10, BAD);
        }
        due("-5 is not refused", x.status(BAD) + x.status(NO) + x.status(FULL), 7);
    }

    private static void promise12Otherwise() {
        FanTalk x = codes("code;code;entry 0 1 0;entry 0 2 2;entry 1 1 0;entry 1 3 2;entry 1 4 2 2;");
        due("of no saying", x.otherwise(0, 0, 0, 1), FanTalk.NONE);
        x.say(row(0, 0, 0));
        due("alike", x.otherwise(0, 0, 0, 1), FanTalk.NONE);
        due("one has no word there", x.otherwise(0, 0, 2, 0), 2);
        due("the other has none there", x.otherwise(2, 1, 0, 0), 2);
        x.say(row(0, 0, 2));
        due("another word", x.otherwise(0, 0, 0, 1), 2);
        due("one kind, one code", x.otherwise(0, 0, 0, 0), FanTalk.NONE);
        x.say(row(2, 2));
        due("another word", x.otherwise(0, 0, 0, 1), 0);
        due("another kind by one code", x.otherwise(0, 1, 1, 1), 0);
        due("nothing is read by the mirror", x.otherwise(3, 0, 3, 1), FanTalk.NONE);
        x.say(row(4, 2, 0));
        x.draughts(2);
        due("with draughts", x.otherwise(0, 0, 0, 1), FanTalk.NONE);
        int[][] bad = {{-1, 0, 0, 0}, {5, 0, 0, 0}, {0, -1, 0, 0}, {0, 2, 0, 0}, {0, 0, -1, 0}, {0, 0, 5, 0},
            {0, 0, 0, -1}, {0, 0, 0, 2}};
        for (int[] b : bad) {
            refused(x, "otherwise", () -> x.otherwise(b[0], b[1], b[2], b[3]), FanTalk.BAD, BAD);
        }
    }

    private static void promise13Utter() {
        FanTalk x = codes("code;code;entry 0 1 0;entry 0 2 2;entry 1 3 0 0;");
        due("no saying", x.utter(0), 0);
        due("that may be undone, too", x.count(5), 1);
        x.say(row(0, 0, 2));
        due("utter(0)", x.utter(0), 3);
        due("utter(1)", x.utter(1), 1);
        due("uses(1)", x.uses(1), 2);
        due("uses(2)", x.uses(2), 1);
        due("uses(3)", x.uses(3), 1);
        x.draughts(1);
        due("with draughts", x.utter(0), 3);
        due("uses(2)", x.uses(2), 3);
        refused(x, "utter(-1)", () -> x.utter(-1), FanTalk.BAD, BAD);
        refused(x, "utter(2)", () -> x.utter(2), FanTalk.BAD, BAD);
    }

    private static void promise14Uses() {
        FanTalk x = codes("code;entry 0 9 0;entry 0 0 2;");
        x.say(row(0, 0, 0, 0, 0, 0));
        for (int i = 0; i < 170; i++) {
            x.utter(0);
            due("uses(9)", x.uses(9), Math.min(999, 6 * i + 6));
        }
        due("uses(0)", x.uses(0), 0);
        refused(x, "uses(-1)", () -> x.uses(-1), FanTalk.BAD, BAD);
        refused(x, "uses(10)", () -> x.uses(10), FanTalk.BAD, BAD);
    }

    private static void promise15Year() {
        FanTalk x = codes("code;code;code;entry 0 1 0;entry 0 2 2;entry 0 3 4;entry 0 1 6;entry 1 2 0;entry 1 3 0 0;"
                + "entry 2 4 8;");
        x.say(row(0, 2));
        due("utter", x.utter(0), 2);
        due("words 3, 4 have no uses", x.year(), 3);
        due("entries", x.count(1), 4);
        due("codes", x.count(0), 3);
        due("they close up", x.told(0, 2, 0), row(6));
        due("the word", x.told(0, 2, 1), 1);
        due("they keep their order", x.told(0, 1, 0), row(2));
        refused(x, "what is gone", () -> x.told(0, 3, 0), FanTalk.BAD, BAD);
        due("uses(1)", x.uses(1), 0);
        due("uses(2)", x.uses(2), 0);
        due("behind the others", x.entry(0, 5, row(4)), 3);
        FanTalk y = codes("code;entry 0 0 0;entry 0 9 2;");
        y.say(row(0, 2));
        y.utter(0);
        due("words 0 and 9 have uses", y.year(), 0);
        due("not any more", y.uses(0) + y.uses(9), 0);
        due("all are gone", x.year(), 5);
        due("none", x.year(), 0);
        due("of no codes", new FanTalk().year(), 0);
    }

    private static void promise16Undo() {
        FanTalk x = codes("code;entry 0 1 0;entry 0 2 2;");
        refused(x, "undo()", x::undo, FanTalk.NO, NO);
        x.say(row(0));
        long before = x.digest();
        x.utter(0);
        due("may be undone", x.count(5), 1);
        due("undo()", x.undo(), 1);
        due("as it was", x.digest(), before);
        x.utter(0);
        x.year();
        due("gone", x.count(1), 1);
        x.draughts(3);
        x.say(row(2, 2));
        due("undo() of a year", x.undo(), 1);
        due("the entries", x.count(1), 2);
        due("the word", x.told(0, 1, 1), 2);
        due("uses(1)", x.uses(1), 1);
        due("draughts stay", x.count(7), 3);
        due("the saying stays", x.count(2), 2);
        due("undo()", x.undo(), 1);
        due("uses(1)", x.uses(1), 0);
        refused(x, "undo()", x::undo, FanTalk.NO, NO);
        x.draughts(0);
        x.say(row(0));
        for (int i = 0; i < 9; i++) {
            x.utter(0);
            due("six at most", x.count(5), Math.min(6, i + 1));
        }
        for (int i = 0; i < 6; i++) {
            due("undo()", x.undo(), 1);
            due("uses(1)", x.uses(1), 8 - i);
        }
        refused(x, "a seventh undo()", x::undo, FanTalk.NO, NO);
    }

    private static void promise16NothingMayBeUndone() {
        FanTalk x = codes("code;");
        x.year();
        x.code();
        due("behind code()", x.count(5), 0);
        x.year();
        x.entry(0, 0, 12);
        due("behind entry()", x.count(5), 0);
        x.year();
        x.read();
        due("behind read()", x.count(5), 0);
        x.year();
        x.entry(0, 0, 11);
        x.say(148);
        x.utter(9);
        x.draughts(1);
        x.say(12);
        x.want(1);
        x.fact(12, 1);
        x.clear();
        due("what is refused, and other calls, keep it", x.count(5), 1);
        type(x, "codes;");
        x.read();
        due("a fault keeps it", x.count(5), 1);
        FanTalk y = full();
        y.year();
        y.code();
        due("a 4th code keeps it", y.count(5), 1);
        y = full();
        y.utter(0);
        y.entry(0, 0, row(11));
        due("a 9th entry keeps it", y.count(5), 1);
        y.entry(0, 0, row(0));
        due("a row that it has keeps it", y.count(5), 1);
    }

    private static void promise17Want() {
        FanTalk x = new FanTalk();
        refused(x, "want(-1)", () -> x.want(-1), FanTalk.BAD, BAD);
        refused(x, "want(10)", () -> x.want(10), FanTalk.BAD, BAD);
        due("want(0)", x.want(0), 1);
        due("want(9)", x.want(9), 2);
        due("want(9)", x.want(9), 3);
        due("want(1)", x.want(1), 4);
        refused(x, "a 5th", () -> x.want(1), FanTalk.FULL, FULL);
        refused(x, "a 5th that is none", () -> x.want(10), FanTalk.BAD, BAD);
    }

    private static void promise18Forget() {
        FanTalk x = new FanTalk();
        due("forget()", x.forget(), 0);
        x.want(3);
        x.want(4);
        due("forget()", x.forget(), 2);
        due("forget()", x.forget(), 0);
        due("want(5)", x.want(5), 1);
    }

    private static void promise19Hide() {
        FanTalk x = codes("code;entry 0 1 0;entry 0 2 2 4;");
        refused(x, "hide(-1, 0, 0)", () -> x.hide(-1, 0, 0), -10, BAD);
        refused(x, "hide(1, 0, 0)", () -> x.hide(1, 0, 0), -10, BAD);
        refused(x, "hide(0, -1, 0)", () -> x.hide(0, -1, 0), -10, BAD);
        refused(x, "hide(0, 1, 0)", () -> x.hide(0, 1, 0), -10, BAD);
        refused(x, "hide(0, 0, -1)", () -> x.hide(0, 0, -1), -10, BAD);
        refused(x, "hide(0, 0, 6)", () -> x.hide(0, 0, 6), -10, BAD);
        due("nothing is wanted", x.hide(0, 0, 5), row(1));
        x.want(1);
        due("one word", x.hide(0, 0, 1), row(0));
        due("where a chaperone is blind", x.hide(0, 0, 0), row(1, 1, 0));
        x.draughts(63);
        due("draughts are not asked", x.hide(0, 0, 0), row(1, 1, 0));
        x.draughts(0);
        x.want(2);
        due("two words", x.hide(0, 0, 5), row(0, 2, 4));
        due("the second over what is blind", x.hide(0, 0, 1), row(0, 2, 4));
        due("none within five beats", x.hide(0, 0, 0), FanTalk.NONE);
        x.forget();
        x.want(2);
        due("a row over what is blind", x.hide(0, 0, 0), row(1, 2, 4));
        x.forget();
        x.want(3);
        due("a word that no entry means", x.hide(0, 0, 5), FanTalk.NONE);
        FanTalk y = codes("code;code;entry 0 1 0;entry 1 2 0;entry 1 3 1;");
        due("another code", y.hide(0, 1, 0), row(2));
        y.want(1);
        due("another code", y.hide(0, 1, 0), row(2, 2, 0));
        due("another code, one word", y.hide(0, 1, 1), row(0));
        y.want(1);
        y.want(1);
        y.want(1);
        due("four words", y.hide(0, 1, 5), row(0, 0, 0, 0));
        due("three words are seen", y.hide(0, 1, 3), row(0, 0, 0, 0));
        due("two are not to be had", y.hide(0, 1, 2), FanTalk.NONE);
        FanTalk z = codes("code;entry 0 1 0 4;");
        z.want(1);
        due("no lawful row has that", z.hide(0, 0, 5), FanTalk.NONE);
        z.want(1);
        due("nor twice", z.hide(0, 0, 5), FanTalk.NONE);
        FanTalk v = codes("code;entry 0 1 0 1;entry 0 2 3 2 1;entry 0 3 11;");
        v.want(1);
        v.want(2);
        due("five beats", v.hide(0, 0, 1), row(0, 1, 3, 2, 1));
        v.forget();
        v.want(3);
        due("the greatest state", v.hide(0, 0, 1), row(11));
        // what comes at beat 2 has a state ahead of it that a chaperone sees: no state is greater than 11
        FanTalk u = codes("code;code;entry 0 1 9;entry 1 0 6;entry 1 0 7;entry 1 0 8;entry 1 0 9;entry 1 0 11;"
                + "entry 1 0 10 10;");
        u.want(1);
        due("none but with a chaperone's word", u.hide(0, 1, 0), FanTalk.NONE);
        due("with one", u.hide(0, 1, 1), row(9));
        FanTalk w = codes("code;entry 0 1 10;entry 0 2 0;");
        w.want(1);
        w.want(2);
        due("open 5 and 0 are five beats apart", w.hide(0, 0, 5), FanTalk.NONE);
    }

    private static void promise20Save() {
        FanTalk x = codes("code;code;entry 0 1 2;entry 0 2 2 2;entry 0 3 5;");
        refused(x, "there is no saying", () -> x.save(0, 1, 0), -20, NO);
        refused(x, "no saying, and bad", () -> x.save(0, 1, 2), -10, BAD);
        x.say(row(2, 2, 2));
        int[][] bad = {{-1, 0, 0}, {2, 0, 0}, {0, -1, 0}, {0, 10, 0}, {0, 0, -1}, {0, 0, 2}};
        for (int[] b : bad) {
            refused(x, "save", () -> x.save(b[0], b[1], b[2]), -10, BAD);
        }
        due("a word that is not read", x.save(0, 7, 0), 0);
        due("the row", x.save(0, 7, 1), row(2, 2, 2));
        due("by a code that is empty", x.save(1, 1, 0), 0);
        due("one beat", x.save(0, 1, 0), 1);
        due("the least number", x.save(0, 1, 1), row(0, 2, 2));
        due("one beat", x.save(0, 2, 0), 1);
        due("the least number", x.save(0, 2, 1), row(2, 0, 2));
        x.say(row(2, 2, 2, 2));
        due("two pairs, two beats", x.save(0, 2, 0), 2);
        due("the row", x.save(0, 2, 1), row(0, 2, 0, 2));
        x.draughts(1);
        x.say(row(2, 2));
        due("with draughts", x.save(0, 1, 0), 1);
        due("another word is read of it", x.save(0, 1, 1), row(0, 2));
        x.draughts(3);
        due("nothing of it is read", x.save(0, 1, 1), row(2, 2));
        x.say(row(0));
        due("open 1 by a draught", x.save(0, 1, 0), 1);
        due("the row", x.save(0, 1, 1), row(1));
        x.draughts(0);
        FanTalk y = codes("code;entry 0 1 0;entry 0 1 1;entry 0 1 2;entry 0 1 3;entry 0 1 4;entry 0 1 5;entry 0 1 6;"
                + "entry 0 1 7;");
        y.say(row(0, 0, 0, 0, 0, 0));
        due("all beats", y.save(0, 1, 0), 6);
        due("all beats", y.save(0, 1, 1), row(8, 8, 8, 8, 8, 8));
        FanTalk z = codes("code;entry 0 1 0;entry 0 1 1;entry 0 1 2;entry 0 1 3;entry 0 1 4;entry 0 1 5;entry 0 1 9;");
        z.say(row(8, 6, 4));
        due("the least that is lawful", z.save(0, 1, 1), row(8, 6, 6));
        z.say(row(8, 6, 4, 6, 8));
        due("one", z.save(0, 1, 1), row(8, 6, 6, 6, 8));
        FanTalk w = codes("code;entry 0 1 8;entry 0 1 9;entry 0 1 10;entry 0 1 11 11;");
        w.say(row(11, 8));
        due("nothing else is lawful behind 11", w.save(0, 1, 0), 2);
        due("both", w.save(0, 1, 1), row(0, 0));
        z.say(row(10, 9, 7));
        due("one", z.save(0, 1, 1), row(10, 8, 7));
    }

    private static void promise21Safe() {
        FanTalk x = new FanTalk();
        refused(x, "safe(0)", () -> x.safe(0), FanTalk.BAD, BAD);
        x.code();
        due("no entries", x.safe(0), 0);
        refused(x, "safe(-1)", () -> x.safe(-1), FanTalk.BAD, BAD);
        refused(x, "safe(1)", () -> x.safe(1), FanTalk.BAD, BAD);
        x.entry(0, 3, row(0));
        due("a word alone", x.safe(0), 1 << 3);
        due("word 0", codes("code;entry 0 0 5;").safe(0), 1);
        x.entry(0, 9, row(2));
        due("0 may be 2 by a draught", x.safe(0), 1 << 9);
        x.entry(0, 9, row(10));
        due("open 5 stays", x.safe(0), 1 << 9);
        x.entry(0, 1, row(8));
        due("8 may be 10", x.safe(0), 1 << 9);
        x.entry(0, 1, row(0, 2));
        due("another row of that word", x.safe(0), 1 << 9);
        due("two of one word", codes("code;entry 0 4 0;entry 0 4 2;").safe(0), 1 << 4);
        due("one row of a word is not safe", codes("code;entry 0 4 9;entry 0 4 0;entry 0 5 2;").safe(0), 1 << 5);
        due("a part of it is read", codes("code;entry 0 0 0 4;entry 0 1 6;").safe(0), 2);
        due("a part of it is read in two draughts", codes("code;entry 0 0 0 4;entry 0 1 2 6;").safe(0), 2);
        due("a third draught", codes("code;entry 0 0 0 4 4;entry 0 1 4 6;").safe(0), 2);
        due("not by a draught: the longest is read", codes("code;entry 0 0 0 0;entry 0 1 0;").safe(0), 2);
        due("both words, one is another", codes("code;entry 0 0 0 0;entry 0 0 2;entry 0 1 0;").safe(0), 0);
        x.draughts(63);
        due("the draughts there are do not count", x.safe(0), 1 << 9);
    }

    private static void promise22Fact() {
        FanTalk x = new FanTalk();
        int[] bad = {-1, 0, 1, 11, 24, 143, 497664, 2985984};
        for (int row : bad) {
            refused(x, "fact(" + row + ")", () -> x.fact(row, 0), FanTalk.BAD, BAD);
        }
        refused(x, "fact of word -1", () -> x.fact(12, -1), FanTalk.BAD, BAD);
        refused(x, "fact of word 10", () -> x.fact(12, 10), FanTalk.BAD, BAD);
        int[] rows = {12, 12, row(0, 11), 497663, 248832, 20736, 3455, 23};
        for (int i = 0; i < 8; i++) {
            due("fact", x.fact(rows[i], i + 2), i);
        }
        refused(x, "a 9th", () -> x.fact(12, 0), FanTalk.FULL, FULL);
        refused(x, "a 9th that is bad", () -> x.fact(24, 0), FanTalk.BAD, BAD);
    }

    private static void promise23MayBe() {
        FanTalk x = codes("code;code;code;entry 0 1 0;entry 0 2 2;entry 1 1 0;entry 1 3 0 2;entry 2 2 2;");
        due("no facts: all", x.mayBe(), 7);
        x.fact(row(0, 11, 2), 1);
        due("word 1", x.mayBe(), 3);
        x.draughts(1);
        due("no draughts", x.mayBe(), 3);
        x.fact(row(0, 2), 1);
        due("code 1 reads that otherwise", x.mayBe(), 1);
        x.fact(row(2, 0), 2);
        due("others are read, too", x.mayBe(), 1);
        x.fact(row(2, 0), 3);
        due("none", x.mayBe(), 0);
        due("no codes", new FanTalk().mayBe(), 0);
    }

    private static void promise24Heat() {
        FanTalk x = new FanTalk();
        refused(x, "no code", () -> x.heat(0, 0, 0, 0, 0), FanTalk.BAD, BAD);
        x.code();
        int[][] bad = {{-1, 0, 0, 0, 0}, {5, 0, 0, 0, 0}, {0, -1, 0, 0, 0}, {0, 1, 0, 0, 0}, {0, 0, -1, 0, 0},
            {0, 0, 10, 0, 0}, {0, 0, 0, -1, 0}, {0, 0, 0, 61, 0}, {0, 0, 0, 0, -1}, {0, 0, 0, 0, 1000000}};
        for (int[] b : bad) {
            refused(x, "heat", () -> x.heat(b[0], b[1], b[2], b[3], b[4]), FanTalk.BAD, BAD);
        }
        // by 0: X is 12345, 1406932606, 654583775, 1449466924, ..: the STATES are 0, 0, 4, 1, ..
        x.entry(0, 1, row(0));
        x.entry(0, 3, row(4));
        x.entry(0, 2, row(1));
        due("no beats", x.heat(0, 0, 1, 0, 0), 0);
        due("one", x.heat(0, 0, 1, 1, 0), 1);
        due("two", x.heat(0, 0, 1, 2, 0), 2);
        due("the third is another", x.heat(0, 0, 1, 3, 0), 2);
        due("the third", x.heat(0, 0, 3, 3, 0), 1);
        due("the fourth is not there yet", x.heat(0, 0, 2, 3, 0), 0);
        due("the fourth", x.heat(0, 0, 2, 4, 0), 1);
        due("the third, a chaperone is blind", x.heat(2, 0, 3, 3, 0), 0);
        due("1 and 0 are as one to a mirror", x.heat(3, 0, 2, 3, 0), 2);
        x.draughts(63);
        due("no draughts", x.heat(0, 0, 1, 2, 0), 2);
        // by 999999: X is 1751684876, whose STATE is 4
        due("the seed", x.heat(0, 0, 1, 1, 999999), 0);
        due("the seed", x.heat(0, 0, 3, 1, 999999), 1);
        // all states are read as word 1: one for each beat
        FanTalk y = codes("code;code;entry 0 1 0;entry 0 1 1;entry 0 1 2;entry 0 1 3;entry 0 1 4;entry 0 1 5;"
                + "entry 1 1 10;entry 1 1 11;");
        int both = y.heat(0, 0, 1, 60, 77) + y.heat(0, 1, 1, 60, 77);
        for (int s = 6; s < 10; s++) {
            FanTalk z = codes("code;entry 0 1 " + s + ";");
            both += z.heat(0, 0, 1, 60, 77);
        }
        due("sixty beats", both, 60);
    }

    private static void promise25Image() {
        FanTalk x = codes("code;entry 0 1 0;");
        refused(x, "image(-1)", () -> x.image(-1), FanTalk.BAD, BAD);
        refused(x, "image(2)", () -> x.image(2), FanTalk.BAD, BAD);
        long before = x.digest();
        due("image(0)", x.image(0), 1);
        due("image(1)", x.image(1), 1);
        due("nothing is changed", x.digest(), before);
        x.code();
        due("image(1), over the other", x.image(1), 1);
        x.code();
        x.from(1);
        due("codes", x.count(0), 2);
        x.from(0);
        due("codes", x.count(0), 1);
    }

    private static void promise26From() {
        FanTalk x = codes("code;entry 0 1 0;entry 0 2 2;");
        refused(x, "from(-1)", () -> x.from(-1), FanTalk.BAD, BAD);
        refused(x, "from(2)", () -> x.from(2), FanTalk.BAD, BAD);
        refused(x, "from(0)", () -> x.from(0), FanTalk.NO, NO);
        x.draughts(5);
        x.say(row(0, 2, 4));
        x.utter(0);
        x.utter(0);
        x.want(3);
        x.fact(row(0), 1);
        x.image(0);
        refused(x, "from(1)", () -> x.from(1), FanTalk.NO, NO);
        long before = x.digest();
        for (int i = 0; i < 2; i++) {
            x.year();
            x.entry(0, 9, row(11));
            x.code();
            x.draughts(0);
            x.say(row(1));
            x.utter(0);
            x.want(4);
            x.fact(row(5), 6);
            due("another digest", x.digest() == before ? 1 : 0, 0);
            due("from(0)", x.from(0), 1);
            due("as it was", x.digest(), before);
        }
        due("what may be undone", x.undo(), 1);
        due("uses", x.uses(2), 2);
        due("what may be undone", x.undo(), 1);
        due("uses", x.uses(2), 0);
        x.from(0);
        due("an image does not change with what goes on from it", x.digest(), before);
        x.clear();
        x.from(0);
        due("the text is not kept", x.count(6), 0);
        due("status is not kept", x.status(BAD) * 10 + x.status(NO), 22);
        x.image(1);
        x.from(0);
        due("an image keeps no images", x.from(1), 1);
        promise26FromOther();
    }

    private static void promise26FromOther() {
        FanTalk x = codes("code;entry 0 1 0;entry 0 2 2;");
        x.image(1);
        x.say(row(0));
        x.utter(0);
        x.utter(0);
        x.want(3);
        x.want(4);
        x.fact(row(5), 6);
        long before = x.digest();
        x.image(0);
        x.from(1);
        due("nothing may be undone", x.undo(), FanTalk.NO);
        x.say(row(2));
        for (int i = 0; i < 5; i++) {
            x.utter(0);
            x.want(7);
            x.fact(row(8), 9);
        }
        x.from(0);
        due("as it was", x.digest(), before);
        due("undo()", x.undo(), 1);
        due("uses(1)", x.uses(1), 1);
        due("uses(2)", x.uses(2), 0);
        due("undo()", x.undo(), 1);
        due("uses(1)", x.uses(1), 0);
        due("uses(2)", x.uses(2), 0);
        refused(x, "undo()", x::undo, FanTalk.NO, NO);
        // an image of another time takes the place of all that was there
        x.from(1);
        x.say(row(2));
        x.utter(0);
        x.image(1);
        x.from(0);
        x.from(1);
        due("undo()", x.undo(), 1);
        due("uses(2)", x.uses(2), 0);
        due("uses(1)", x.uses(1), 0);
        x.utter(0);
        x.entry(0, 3, row(7));
        x.utter(0);
        x.image(0);
        x.read();
        x.utter(0);
        x.from(0);
        x.undo();
        due("uses(2)", x.uses(2), 1);
        due("entries", x.count(1), 3);
    }

    private static void promise27Status() {
        FanTalk x = new FanTalk();
        due("status(3)", x.status(3), -1);
        due("status(-1)", x.status(-1), -1);
        due("these are BAD", x.status(0), 2);
        x.undo();
        due("NO", x.status(1), 1);
        x.code();
        x.code();
        x.code();
        x.code();
        due("FULL", x.status(2), 1);
        x.reads(9, 9, 9);
        x.hide(9, 9, 9);
        x.save(9, 9, 9);
        due("-10 is BAD", x.status(0), 5);
        x.save(0, 0, 0);
        due("-20 is NO", x.status(1), 2);
        x.reads(0, 0, 0);
        x.seen(7);
        x.otherwise(0, 0, 0, 0);
        x.want(1);
        x.hide(0, 0, 0);
        type(x, "x");
        x.read();
        due("others are not refused", x.status(0) * 100 + x.status(1) * 10 + x.status(2), 521);
    }

    private static void promise28Count() {
        FanTalk x = codes("code;code;entry 0 1 0;entry 1 1 0;entry 1 2 2;draught 33;");
        x.say(row(0, 0, 0, 0));
        x.want(1);
        x.want(2);
        x.want(3);
        x.fact(row(1), 2);
        x.fact(row(1), 2);
        x.utter(0);
        int[] want = {2, 3, 4, 3, 2, 1, 57, 33};
        for (int what = 0; what < 8; what++) {
            due("count(" + what + ")", x.count(what), want[what]);
        }
        refused(x, "count(-1)", () -> x.count(-1), FanTalk.BAD, BAD);
        refused(x, "count(8)", () -> x.count(8), FanTalk.BAD, BAD);
    }

    private static long digestOf(long... all) {
        long h = 811;
        for (long v : all) {
            h = 31 * h + v;
        }
        return h;
    }

    private static void promise29Digest() {
        FanTalk x = new FanTalk();
        due("a new object's", x.digest(), digestOf(0, 0, 0, 0, 0, 0, 0, 0, 0, 0, 0, 0, 0, 0, 0, 0, 0, 0));
        x = codes("code;code;code;entry 0 1 2;entry 2 3 0 1;entry 2 9 11;draught 3;");
        x.say(row(2, 4, 2));
        x.draughts(0);
        x.utter(0);
        x.draughts(3);
        x.want(5);
        x.want(6);
        x.fact(row(7), 8);
        x.fact(row(0, 4), 9);
        due("digest()", x.digest(), digestOf(3, 3, 3, 2, 2, 1, x.count(6), 3,
                1, row(2), 1, 0, 2, row(0, 1), 3, row(11), 9,
                0, 2, 0, 0, 0, 0, 0, 0, 0, 0,
                2, 4, 2, 5, 6, row(7), 8, row(0, 4), 9));
        x.status(9);
        x.image(0);
        due("status and images are not in it", x.digest(), digestOf(3, 3, 3, 2, 2, 1, x.count(6), 3,
                1, row(2), 1, 0, 2, row(0, 1), 3, row(11), 9,
                0, 2, 0, 0, 0, 0, 0, 0, 0, 0,
                2, 4, 2, 5, 6, row(7), 8, row(0, 4), 9));
    }
}

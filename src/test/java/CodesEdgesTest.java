/** The edges of promises 1 to 7: a new object, codes, entries, draughts, the text's bytes. */
public final class CodesEdgesTest {
    private static final int BAD = Edges.BAD, NO = Edges.NO, FULL = Edges.FULL;

    public static void main(String[] args) {
        Edges.edge("the constants: NONE = -1, BAD = -2, NO = -3, FULL = -4", CodesEdgesTest::constants);
        newObject();
        rows();
        code();
        entry();
        entryRefusals();
        told();
        draughts();
        type();
        clear();
        Edges.end("edges of codes");
    }

    private static void constants() {
        Edges.due("NONE", FanTalk.NONE, -1);
        Edges.due("BAD", FanTalk.BAD, -2);
        Edges.due("NO", FanTalk.NO, -3);
        Edges.due("FULL", FanTalk.FULL, -4);
    }

    private static void newObject() {
        Edges.edge("1: As told; no CODES", () -> {
            Edges.due("count(0)", new FanTalk().count(0), 0);
            Edges.due("count(1)", new FanTalk().count(1), 0);
        });
        Edges.edge("DRAUGHTS: none at first", () -> Edges.due("draughts(0)", new FanTalk().draughts(0), 0));
        Edges.edge("THE SAYING: none at first: nothing is READ", () -> {
            FanTalk x = new FanTalk();
            Edges.stands(x, "seen(0)", o -> o.seen(0), FanTalk.NONE);
            Edges.due("count(2)", x.count(2), 0);
            x.code();
            x.entry(0, 1, 12);
            for (int kind = 0; kind < 5; kind++) {
                Edges.reads(x, kind, 0, "");
            }
            Edges.due("utter(0)", x.utter(0), 0);
            Edges.due("uses(1)", x.uses(1), 0);
        });
        Edges.edge("USES of a WORD (0 at first)", () -> {
            FanTalk x = new FanTalk();
            for (int word = 0; word < 10; word++) {
                Edges.due("uses(" + word + ")", x.uses(word), 0);
            }
        });
        Edges.edge("a new object: no WANT, no FACTS, nothing to undo, an empty TEXT, no STATUS", () -> {
            FanTalk x = new FanTalk();
            for (int what = 0; what < 8; what++) {
                Edges.due("count(" + what + ")", x.count(what), 0);
            }
            Edges.status(x, 0, 0, 0);
            Edges.due("forget()", x.forget(), 0);
            Edges.due("clear()", x.clear(), 0);
            Edges.due("mayBe()", x.mayBe(), 0);
            Edges.due("undo()", x.undo(), FanTalk.NO);
            Edges.due("from(0)", x.from(0), FanTalk.NO);
            Edges.due("from(1)", x.from(1), FanTalk.NO);
            Edges.status(x, 0, 3, 0);
        });
        Edges.edge("a new object has nothing of another one", () -> {
            Edges.full();
            Edges.alike("another object", new FanTalk(), new FanTalk());
            Edges.due("count(0)", new FanTalk().count(0), 0);
        });
    }

    private static void rows() {
        Edges.edge("A STATE is 2 times OPEN (0 .. 5), and its SIDE (0, 1): 0 .. 11, each in each BEAT of a ROW", () -> {
            for (int beat = 0; beat < 6; beat++) {
                FanTalk x = new FanTalk();
                for (int s = 0; s < 12; s++) {
                    int[] states = {s, s, s, s, s, s};
                    states[beat] = s ^ 1;
                    Edges.due("say", x.say(Edges.row(states)), 6);
                    for (int i = 0; i < 6; i++) {
                        Edges.due("seen(" + i + ")", x.seen(i), states[i]);
                    }
                }
            }
        });
        Edges.edge("LAWFUL, if from BEAT to BEAT OPEN is no more than 1 more or less: all two STATES", () -> {
            for (int a = 0; a < 12; a++) {
                FanTalk x = new FanTalk();
                for (int b = 0; b < 12; b++) {
                    boolean lawful = Math.abs(a / 2 - b / 2) <= 1;
                    Edges.due("say of " + a + ", " + b, x.say(Edges.row(a, b)), lawful ? 2 : FanTalk.NO);
                }
            }
        });
        Edges.edge("LAWFUL .. from BEAT to BEAT (0 on): each BEAT of six, OPEN 2 more and 2 less", () -> {
            for (int beat = 0; beat < 6; beat++) {
                for (int other : new int[] {0, 1, 8, 9}) {
                    int[] states = {4, 5, 4, 5, 4, 5};
                    states[beat] = other;
                    int row = Edges.row(states);
                    Edges.refused(Edges::some, "say(" + row + ")", x -> x.say(row), FanTalk.NO, NO);
                }
            }
        });
    }

    private static void code() {
        Edges.edge("CODES 0 .. 2, as they come", () -> {
            FanTalk x = new FanTalk();
            for (int i = 0; i < 3; i++) {
                Edges.stands(x, "code()", FanTalk::code, i);
                Edges.due("count(0)", x.count(0), i + 1);
                Edges.due("entries of it", x.count(1), i);
                Edges.due("entry of the newest", x.entry(i, 1, 12), 0);
                Edges.due("entry of the next", x.entry(i + 1, 1, 12), FanTalk.BAD);
            }
        });
        Edges.edge("2: FULL: 3", () -> {
            Edges.refused(Edges::full, "a 4th code", FanTalk::code, FanTalk.FULL, FULL);
            Edges.refused(() -> Edges.codes("code;code;code;"), "a 4th code", FanTalk::code, FanTalk.FULL, FULL);
        });
        Edges.edge("2: nothing may be undone then", () -> {
            FanTalk x = Edges.some();
            Edges.due("count(5)", x.count(5), 4);
            Edges.due("code()", x.code(), 2);
            Edges.due("count(5)", x.count(5), 0);
            Edges.due("undo()", x.undo(), FanTalk.NO);
            Edges.due("uses stay", x.uses(1), 4);
        });
        Edges.edge("2: FULL changes nothing: what may be undone stays", () -> {
            FanTalk x = Edges.full();
            Edges.due("code()", x.code(), FanTalk.FULL);
            Edges.due("count(5)", x.count(5), 6);
            Edges.due("undo()", x.undo(), 1);
        });
    }

    private static FanTalk twoEmpty() {
        return Edges.codes("code;code;");
    }

    private static void entry() {
        Edges.edge("ENTRIES 0 .. 7 of one, as they come", () -> {
            FanTalk x = twoEmpty();
            for (int i = 0; i < 8; i++) {
                int row = 12 + i;
                Edges.stands(x, "entry", o -> o.entry(1, 3, row), i);
                Edges.due("count(1)", x.count(1), i + 1);
                Edges.due("told", x.told(1, i, 0), row);
            }
            Edges.due("the other code's first", x.entry(0, 3, 12), 0);
        });
        Edges.edge("3: FULL: 8", () ->
            Edges.refused(Edges::full, "a 9th entry", x -> x.entry(2, 0, 23), FanTalk.FULL, FULL));
        Edges.edge("a ROW of 1 to 3 STATES: the least and the greatest of each, BAD beside these", () ->
            Edges.rows(CodesEdgesTest::twoEmpty, "entry", 3, (x, v) -> x.entry(1, 3, v)));
        Edges.edge("a ROW (LAWFUL or not)", () -> {
            FanTalk x = twoEmpty();
            int[] rows = {Edges.row(0, 11), Edges.row(11, 0), Edges.row(0, 4), Edges.row(0, 11, 0), Edges.row(4, 4, 0)};
            for (int i = 0; i < rows.length; i++) {
                int row = rows[i];
                Edges.stands(x, "entry of " + row, o -> o.entry(0, 0, row), i);
                Edges.due("told", x.told(0, i, 0), row);
            }
        });
        Edges.edge("a WORD (0 .. 9) that it means", () ->
            Edges.range(CodesEdgesTest::twoEmpty, "entry's word", 0, 9, FanTalk.BAD, (x, v) -> x.entry(0, v, 12)));
        Edges.edge("3: BAD: a CODE that is not there", () -> {
            Edges.range(CodesEdgesTest::twoEmpty, "entry's code", 0, 1, FanTalk.BAD, (x, v) -> x.entry(v, 0, 12));
            Edges.refused(FanTalk::new, "entry of no code", x -> x.entry(0, 0, 12), FanTalk.BAD, BAD);
        });
        Edges.edge("no two of one CODE have one ROW: NO, the first, the last, another word or that one", () -> {
            for (int i = 0; i < 3; i++) {
                for (int word = 0; word < 3; word++) {
                    int row = new int[] {12, Edges.row(0, 0), Edges.row(0, 0, 0)}[i];
                    int w = word;
                    Edges.refused(() -> Edges.codes("code;entry 0 0 0;entry 0 1 0 0;entry 0 2 0 0 0;"),
                            "that row", x -> x.entry(0, w, row), FanTalk.NO, NO);
                }
            }
        });
        Edges.edge("no two of one CODE: another CODE may have it, and one CODE two of one WORD", () -> {
            FanTalk x = Edges.codes("code;code;code;entry 1 0 0;");
            Edges.stands(x, "entry of code 0", o -> o.entry(0, 0, 12), 0);
            Edges.stands(x, "entry of code 2", o -> o.entry(2, 0, 12), 0);
            Edges.stands(x, "a second of word 0", o -> o.entry(1, 0, 13), 1);
        });
        Edges.edge("one ROW: 0, 0 0 and 0 0 0 are three", () -> {
            FanTalk x = twoEmpty();
            Edges.stands(x, "entry", o -> o.entry(0, 0, Edges.row(0)), 0);
            Edges.stands(x, "entry", o -> o.entry(0, 0, Edges.row(0, 0)), 1);
            Edges.stands(x, "entry", o -> o.entry(0, 0, Edges.row(0, 0, 0)), 2);
        });
        Edges.edge("3: nothing may be undone then", () -> {
            FanTalk x = Edges.some();
            Edges.due("entry", x.entry(1, 0, 23), 1);
            Edges.due("count(5)", x.count(5), 0);
            Edges.due("undo()", x.undo(), FanTalk.NO);
        });
    }

    private static void entryRefusals() {
        Edges.edge("the first of: BAD ahead of NO", () -> {
            Edges.refused(Edges::some, "word 10, a row it has", x -> x.entry(0, 10, 14), FanTalk.BAD, BAD);
            Edges.refused(Edges::some, "word -1, a row it has", x -> x.entry(0, -1, 14), FanTalk.BAD, BAD);
            Edges.refused(Edges::some, "code 2, a row that 0 has", x -> x.entry(2, 1, 14), FanTalk.BAD, BAD);
        });
        Edges.edge("the first of: BAD ahead of FULL", () -> {
            Edges.refused(Edges::full, "a 9th, no word", x -> x.entry(0, 10, 23), FanTalk.BAD, BAD);
            Edges.refused(Edges::full, "a 9th, no row", x -> x.entry(0, 0, 24), FanTalk.BAD, BAD);
            Edges.refused(Edges::full, "a 9th, no code", x -> x.entry(3, 0, 23), FanTalk.BAD, BAD);
        });
        Edges.edge("the first of: NO ahead of FULL", () -> {
            for (int i = 0; i < 8; i++) {
                int row = Edges.row(i + 1);
                Edges.refused(Edges::full, "a 9th of a row it has", x -> x.entry(1, 0, row), FanTalk.NO, NO);
            }
        });
        Edges.edge("a refused entry changes nothing: what may be undone stays", () -> {
            FanTalk x = Edges.full();
            x.entry(0, 0, 23);
            x.entry(0, 0, 12);
            x.entry(0, 0, 24);
            Edges.status(x, 1, 1, 5);
            Edges.due("count(5)", x.count(5), 6);
            Edges.due("count(1)", x.count(1), 24);
        });
    }

    private static void told() {
        Edges.edge("4: BAD: a CODE that is not there", () -> {
            Edges.range(Edges::some, "told's code", 0, 1, FanTalk.BAD, (x, v) -> x.told(v, 0, 0));
            Edges.refused(FanTalk::new, "told of no code", x -> x.told(0, 0, 0), FanTalk.BAD, BAD);
        });
        Edges.edge("4: BAD: an ENTRY that is not there: none, one, eight", () -> {
            Edges.refused(CodesEdgesTest::twoEmpty, "told of no entry", x -> x.told(1, 0, 1), FanTalk.BAD, BAD);
            Edges.range(() -> Edges.codes("code;entry 0 1 2;"), "told's entry", 0, 0, FanTalk.BAD,
                    (x, v) -> x.told(0, v, 0));
            Edges.range(Edges::full, "told's entry", 0, 7, FanTalk.BAD, (x, v) -> x.told(1, v, 1));
        });
        Edges.edge("4: ROW (what = 0), WORD (1); BAD: another what", () ->
            Edges.range(Edges::full, "told's what", 0, 1, FanTalk.BAD, (x, v) -> x.told(2, 7, v)));
        Edges.edge("4: the first and the last ENTRY of the first and the last CODE", () -> {
            FanTalk x = Edges.full();
            for (int code = 0; code < 3; code++) {
                for (int i = 0; i < 8; i++) {
                    int c = code;
                    int e = i;
                    Edges.stands(x, "told's row", o -> o.told(c, e, 0), Edges.row(i + code));
                    Edges.stands(x, "told's word", o -> o.told(c, e, 1), (i + code) % 10);
                }
            }
        });
        Edges.edge("4: an ENTRY that a YEAR took is not there", () -> {
            FanTalk x = Edges.some();
            Edges.due("count(1)", x.count(1), 2);
            Edges.due("told", x.told(0, 0, 0), 14);
            Edges.due("told", x.told(0, 1, 0), FanTalk.BAD);
            Edges.due("told", x.told(1, 1, 0), FanTalk.BAD);
        });
    }

    private static void draughts() {
        Edges.edge("DRAUGHTS: a set of BEATS (0 .. 63); 5: BAD", () ->
            Edges.range(Edges::some, "draughts", 0, 63, FanTalk.BAD, (x, v) -> x.draughts(v)));
        Edges.edge("5: what they were: each set", () -> {
            FanTalk x = new FanTalk();
            int before = 0;
            for (int set = 63; set >= 0; set--) {
                int s = set;
                Edges.stands(x, "draughts(" + s + ")", o -> o.draughts(s), before);
                Edges.due("count(7)", x.count(7), s);
                before = s;
            }
        });
        Edges.edge("5: a refused set leaves what they were", () -> {
            FanTalk x = Edges.some();
            x.draughts(64);
            x.draughts(-1);
            x.draughts(Integer.MIN_VALUE);
            x.draughts(Integer.MAX_VALUE);
            Edges.status(x, 4, 0, 0);
            Edges.due("draughts(0)", x.draughts(0), 34);
        });
        Edges.edge("in these OPEN is 1 more than it was made (5 at most): each STATE in each BEAT", () -> {
            for (int s = 0; s < 12; s++) {
                FanTalk x = new FanTalk();
                x.say(Edges.like(6, s));
                for (int bit = 0; bit < 6; bit++) {
                    x.draughts(1 << bit);
                    for (int beat = 0; beat < 6; beat++) {
                        Edges.due("seen(" + beat + ") of " + s, x.seen(beat), beat == bit && s < 10 ? s + 2 : s);
                    }
                }
            }
        });
        Edges.edge("1 more than it was made: no more for a set that is told again, nothing behind none", () -> {
            FanTalk x = new FanTalk();
            x.say(Edges.row(0));
            x.draughts(1);
            x.draughts(1);
            Edges.due("seen(0)", x.seen(0), 2);
            x.draughts(0);
            Edges.due("seen(0)", x.seen(0), 0);
            x.draughts(62);
            Edges.due("DRAUGHTS behind THE SAYING's end", x.seen(0), 0);
        });
        Edges.edge("5: nothing else is changed: what may be undone, CODES, USES stay", () -> {
            FanTalk x = Edges.some();
            x.draughts(0);
            Edges.due("count(5)", x.count(5), 4);
            Edges.due("uses(1)", x.uses(1), 4);
        });
    }

    private static FanTalk bytes(int many) {
        FanTalk x = new FanTalk();
        for (int i = 0; i < many; i++) {
            x.type(32, 1);
        }
        return x;
    }

    private static void type() {
        Edges.edge("6: the lowest n (1 .. 8) bytes of v", () ->
            Edges.range(Edges::some, "type's n", 1, 8, FanTalk.BAD, (x, v) -> x.type(32, v)));
        Edges.edge("6: the lowest n bytes, the highest of them first: each n", () -> {
            String all = "draught;";
            long v = 0x6472617567687420L;
            String[] behind = {"", "t", "ht", "ght", "ught", "aught", "raught", "draught"};
            for (int n = 1; n <= 8; n++) {
                FanTalk x = Edges.type(new FanTalk(), "draught".substring(0, 8 - n));
                Edges.due("type of '" + behind[n - 1] + " '", x.type(v, n), 8);
                x.type(0x353B, 2);
                Edges.due("read() of '" + all + "' and a number", x.read(), 1);
                Edges.due("count(7)", x.count(7), 5);
            }
        });
        Edges.edge("6: what is above the lowest n bytes is not asked", () -> {
            FanTalk x = new FanTalk();
            Edges.due("type", x.type(0xFFFFFFFFFFFFFF63L, 1), 1);
            Edges.due("type", x.type(0x8000000000006F64L, 2), 3);
            Edges.due("type", x.type(0x7FFFFFFFFFFF653BL, 2), 5);
            Edges.due("read()", x.read(), 1);
        });
        Edges.edge("6: the least and the greatest v", () -> {
            long[] all = {Long.MIN_VALUE, Long.MAX_VALUE, -1, 0, 1, Integer.MIN_VALUE, Integer.MAX_VALUE};
            for (long v : all) {
                for (int n = 1; n <= 8; n++) {
                    int many = n;
                    Edges.stands(Edges.type(new FanTalk(), "code;"), "type", x -> x.type(v, many), 5 + n);
                }
                FanTalk x = new FanTalk();
                x.type(v, 8);
                Edges.due("read() of bytes that begin no token", x.read(), -10);
            }
        });
        Edges.edge("THE TEXT (250 bytes at most): 249, 250, 251", () -> {
            FanTalk x = bytes(248);
            Edges.stands(x, "type", o -> o.type(32, 1), 249);
            Edges.due("count(6)", x.count(6), 249);
            Edges.stands(x, "type", o -> o.type(32, 1), 250);
            Edges.due("count(6)", x.count(6), 250);
            Edges.due("type", x.type(32, 1), FanTalk.FULL);
            Edges.due("count(6)", x.count(6), 250);
            Edges.status(x, 0, 0, 1);
        });
        Edges.edge("6: FULL: what would go past 250 bytes, by 1 or more; the last that fits stands", () -> {
            for (int n = 1; n <= 8; n++) {
                int many = n;
                Edges.refused(() -> bytes(251 - many), "type", x -> x.type(32, many), FanTalk.FULL, FULL);
                Edges.refused(() -> bytes(250), "type", x -> x.type(32, many), FanTalk.FULL, FULL);
                Edges.stands(bytes(250 - many), "type", x -> x.type(32, many), 250);
            }
        });
        Edges.edge("6: FULL adds no byte: what fits comes behind it", () -> {
            FanTalk x = bytes(245);
            x.type(0x636F64653B20L, 6);
            Edges.due("count(6)", x.count(6), 245);
            Edges.due("type", x.type(0x636F64653BL, 5), 250);
            Edges.due("read()", x.read(), 1);
        });
        Edges.edge("the first of: BAD ahead of FULL (type)", () -> {
            for (int n : new int[] {0, -1, 9, Integer.MIN_VALUE, Integer.MAX_VALUE}) {
                Edges.refused(Edges::full, "type(32, " + n + ")", x -> x.type(32, n), FanTalk.BAD, BAD);
            }
        });
    }

    private static void clear() {
        Edges.edge("7: THE TEXT is empty: how many it had: none, 1, 250", () -> {
            FanTalk x = new FanTalk();
            Edges.stands(x, "clear()", FanTalk::clear, 0);
            x.type(32, 1);
            Edges.stands(x, "clear()", FanTalk::clear, 1);
            Edges.due("count(6)", x.count(6), 0);
            x = Edges.full();
            Edges.stands(x, "clear()", FanTalk::clear, 250);
            Edges.due("count(6)", x.count(6), 0);
            Edges.stands(x, "clear()", FanTalk::clear, 0);
        });
        Edges.edge("7: behind it 250 bytes fit again", () -> {
            FanTalk x = bytes(250);
            x.clear();
            for (int i = 1; i <= 31; i++) {
                Edges.due("type", x.type(0, 8), 8 * i);
            }
            Edges.due("type", x.type(0, 3), FanTalk.FULL);
            Edges.due("type", x.type(0, 2), 250);
        });
        Edges.edge("7: nothing else is changed: CODES that were read, what may be undone", () -> {
            FanTalk x = Edges.some();
            long entries = x.count(1);
            x.clear();
            Edges.due("count(1)", x.count(1), entries);
            Edges.due("count(5)", x.count(5), 4);
        });
        Edges.edge("7: what was in THE TEXT is not read any more", () -> {
            FanTalk x = Edges.type(new FanTalk(), "draught 63;");
            Edges.type(x, "draught 6");
            Edges.due("read()", x.read(), -19);
            x.type(';', 1);
            Edges.due("read()", x.read(), 1);
            Edges.due("count(7)", x.count(7), 6);
        });
    }
}

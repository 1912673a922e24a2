/** The edges of promises 9 to 16: the saying, what is read of it, uses, years, what is undone. */
public final class SayingsEdgesTest {
    private static final int BAD = Edges.BAD, NO = Edges.NO;

    public static void main(String[] args) {
        say();
        seen();
        reads();
        otherwise();
        otherwiseRefusals();
        utter();
        uses();
        year();
        undo();
        undoneNoMore();
        Edges.end("edges of sayings");
    }

    private static void say() {
        Edges.edge("9: BAD: it is no ROW of 1 to 6 STATES: the least and the greatest of each stand", () ->
            Edges.rows(Edges::some, "say", 6, (x, v) -> x.say(v)));
        Edges.edge("9: how many BEATS: 1 to 6", () -> {
            FanTalk x = new FanTalk();
            for (int n = 1; n <= 6; n++) {
                int beats = n;
                Edges.stands(x, "say", o -> o.say(Edges.like(beats, 11)), n);
                Edges.due("count(2)", x.count(2), n);
                Edges.due("the last", x.seen(n - 1), 11);
                Edges.due("behind it", x.seen(n), FanTalk.NONE);
            }
        });
        Edges.edge("9: NO: it is not LAWFUL: two BEATS and six", () -> {
            int[] rows = {Edges.row(0, 4), Edges.row(4, 0), Edges.row(3, 6), Edges.row(11, 7), Edges.row(0, 11),
                Edges.row(11, 0), Edges.row(0, 0, 0, 0, 0, 4), Edges.row(0, 4, 4, 4, 4, 4),
                Edges.row(2, 4, 6, 8, 10, 7)};
            for (int row : rows) {
                Edges.refused(Edges::some, "say(" + row + ")", x -> x.say(row), FanTalk.NO, NO);
                Edges.refused(FanTalk::new, "say(" + row + ")", x -> x.say(row), FanTalk.NO, NO);
            }
        });
        Edges.edge("the first of: BAD ahead of NO: seven STATES that are not LAWFUL", () -> {
            int row = Edges.row(0, 4, 0, 4, 0, 4, 0);
            Edges.refused(Edges::some, "say(" + row + ")", x -> x.say(row), FanTalk.BAD, BAD);
        });
        Edges.edge("9: a refused one leaves the SAYING there was", () -> {
            FanTalk x = new FanTalk();
            x.say(Edges.row(5, 7));
            Edges.due("say", x.say(Edges.row(0, 4, 0, 0)), FanTalk.NO);
            Edges.due("say", x.say(24), FanTalk.BAD);
            Edges.due("count(2)", x.count(2), 2);
            Edges.due("seen(0)", x.seen(0), 5);
            Edges.due("seen(1)", x.seen(1), 7);
            Edges.due("seen(2)", x.seen(2), FanTalk.NONE);
            Edges.status(x, 1, 1, 0);
        });
        Edges.edge("9: a shorter one takes the place of a longer one, DRAUGHTS and what may be undone stay", () -> {
            FanTalk x = Edges.some();
            Edges.due("say", x.say(Edges.row(6)), 1);
            Edges.due("count(2)", x.count(2), 1);
            Edges.due("seen(1)", x.seen(1), FanTalk.NONE);
            Edges.due("count(7)", x.count(7), 34);
            Edges.due("count(5)", x.count(5), 4);
        });
    }

    private static void seen() {
        Edges.edge("10: BAD: below 0", () -> {
            for (int beat : new int[] {-1, -2, -6, Integer.MIN_VALUE}) {
                Edges.refused(Edges::some, "seen(" + beat + ")", x -> x.seen(beat), FanTalk.BAD, BAD);
                Edges.refused(FanTalk::new, "seen(" + beat + ")", x -> x.seen(beat), FanTalk.BAD, BAD);
            }
        });
        Edges.edge("10: NONE: there is no such BEAT; it is not refused", () -> {
            for (int n = 1; n <= 6; n++) {
                FanTalk x = new FanTalk();
                x.say(Edges.like(n, 7));
                x.draughts(63);
                for (int beat = 0; beat < 8; beat++) {
                    int b = beat;
                    Edges.stands(x, "seen(" + b + ")", o -> o.seen(b), b < n ? 9 : FanTalk.NONE);
                }
                Edges.stands(x, "seen, far off", o -> o.seen(Integer.MAX_VALUE), FanTalk.NONE);
            }
            Edges.stands(new FanTalk(), "seen(0) of no SAYING", o -> o.seen(0), FanTalk.NONE);
        });
    }

    private static FanTalk sixWords() {
        return Edges.codesAndSaying("code;entry 0 0 0;entry 0 9 2;code;", 0, 2, 0, 2, 0, 2);
    }

    private static void reads() {
        Edges.edge("11: BAD: -10: a KIND 0 .. 4", () ->
            Edges.range(SayingsEdgesTest::sixWords, "reads' kind", 0, 4, -10, (x, v) -> x.reads(v, 0, 0)));
        Edges.edge("11: BAD: -10: a CODE that is not there", () -> {
            Edges.range(SayingsEdgesTest::sixWords, "reads' code", 0, 1, -10, (x, v) -> x.reads(0, v, 0));
            Edges.range(Edges::full, "reads' code", 0, 2, -10, (x, v) -> x.reads(4, v, -1));
            Edges.refused(FanTalk::new, "reads by no code", x -> x.reads(0, 0, -1), -10, BAD);
        });
        Edges.edge("11: BAD: -10: i below -1, too", () -> {
            for (int i : new int[] {-2, -5, -10, Integer.MIN_VALUE}) {
                Edges.refused(SayingsEdgesTest::sixWords, "reads(0, 0, " + i + ")", x -> x.reads(0, 0, i), -10, BAD);
            }
        });
        Edges.edge("11: how many WORDS (i = NONE), the i-th (0 on)", () -> {
            FanTalk x = sixWords();
            Edges.stands(x, "reads(0, 0, NONE)", o -> o.reads(0, 0, FanTalk.NONE), 6);
            for (int i = 0; i < 6; i++) {
                int place = i;
                Edges.stands(x, "reads(0, 0, " + i + ")", o -> o.reads(0, 0, place), i % 2 * 9);
            }
        });
        Edges.edge("11: -5: not so many; it is not refused", () -> {
            for (int i : new int[] {6, 7, 59, 60, 61, Integer.MAX_VALUE}) {
                Edges.stands(sixWords(), "reads(0, 0, " + i + ")", o -> o.reads(0, 0, i), -5);
            }
            Edges.stands(sixWords(), "of four that a chaperone reads", o -> o.reads(2, 0, 4), -5);
            Edges.stands(sixWords(), "of none", o -> o.reads(0, 1, 0), -5);
            FanTalk none = Edges.codes("code;entry 0 1 0;");
            Edges.stands(none, "of no SAYING", o -> o.reads(0, 0, 0), -5);
            Edges.stands(none, "how many of no SAYING", o -> o.reads(0, 0, -1), 0);
        });
        Edges.edge("11: -5: words of a longer SAYING, of another KIND are not there any more", () -> {
            FanTalk x = sixWords();
            Edges.due("reads", x.reads(0, 0, 5), 9);
            x.say(Edges.row(2));
            Edges.reads(x, 0, 0, "9");
            Edges.due("heat", x.heat(0, 0, 0, 60, 0) > 1 ? 1 : 0, 1);
            Edges.reads(x, 0, 0, "9");
        });
    }

    private static void otherwise() {
        Edges.edge("OTHERWISE: the first place (0 on): each of six", () -> {
            for (int place = 0; place < 6; place++) {
                int[] states = {0, 0, 0, 0, 0, 0};
                states[place] = 1;
                FanTalk x = Edges.codesAndSaying("code;entry 0 1 0;entry 0 2 1;code;entry 1 1 0;entry 1 3 1;", states);
                Edges.stands(x, "otherwise", o -> o.otherwise(0, 0, 0, 1), place);
                Edges.stands(x, "otherwise, the other way round", o -> o.otherwise(0, 1, 0, 0), place);
            }
        });
        Edges.edge("the first place: of two in which they are not alike", () -> {
            FanTalk x = Edges.codesAndSaying("code;entry 0 1 0;entry 0 2 1;code;entry 1 1 0;entry 1 3 1;",
                    0, 1, 1, 0, 1);
            Edges.due("otherwise", x.otherwise(0, 0, 0, 1), 1);
        });
        Edges.edge("not alike (one has no WORD there, too): behind each number of words", () -> {
            FanTalk x = Edges.codes("code;entry 0 1 0;entry 0 1 1;code;entry 1 1 0;");
            for (int n = 0; n < 6; n++) {
                int[] states = new int[n + 1];
                states[n] = 1;
                x.say(Edges.row(states));
                Edges.stands(x, "the second has none", o -> o.otherwise(0, 0, 0, 1), n);
                Edges.stands(x, "the first has none", o -> o.otherwise(0, 1, 0, 0), n);
            }
        });
        Edges.edge("what two (KINDS, CODES) READ: each KIND by its own CODE, the first and the second", () -> {
            FanTalk x = Edges.codesAndSaying("code;entry 0 1 0;entry 0 2 0 0;entry 0 3 1;entry 0 4 10;entry 0 5 8;code;"
                    + "entry 1 1 0;entry 1 4 10;", 0, 0, 0, 0);
            int[][] due = {{0, 0, 1, 0, 0}, {1, 0, 0, 0, 0}, {1, 0, 1, 1, -1}, {1, 0, 0, 1, -1}, {0, 0, 0, 1, 0},
                {2, 0, 0, 0, 1}, {0, 0, 2, 0, 1}, {2, 0, 4, 0, -1}, {2, 1, 1, 0, 3}, {1, 1, 2, 1, 3}, {3, 0, 0, 0, 0},
                {3, 1, 1, 1, 0}, {3, 1, 3, 1, -1}};
            for (int[] d : due) {
                Edges.due("otherwise(" + d[0] + ", " + d[1] + ", " + d[2] + ", " + d[3] + ")",
                        x.otherwise(d[0], d[1], d[2], d[3]), d[4]);
            }
            x.say(Edges.row(10, 8));
            Edges.due("a chaperone and an aunt", x.otherwise(2, 0, 4, 0), 0);
            Edges.due("an aunt and a chaperone", x.otherwise(4, 0, 2, 0), 0);
            Edges.due("a friend and a chaperone", x.otherwise(0, 0, 2, 0), FanTalk.NONE);
        });
        Edges.edge("OTHERWISE: none: NONE, which is not refused", () -> {
            FanTalk x = Edges.codes("code;entry 0 1 0;code;entry 1 1 0;code;");
            Edges.stands(x, "of no SAYING", o -> o.otherwise(0, 0, 4, 2), FanTalk.NONE);
            x.say(Edges.like(6, 0));
            Edges.stands(x, "six words alike", o -> o.otherwise(0, 0, 0, 1), FanTalk.NONE);
            Edges.stands(x, "one and the same", o -> o.otherwise(0, 0, 0, 0), FanTalk.NONE);
            Edges.stands(x, "nothing and nothing", o -> o.otherwise(0, 2, 3, 0), FanTalk.NONE);
            Edges.stands(x, "nothing and something", o -> o.otherwise(0, 2, 0, 0), 0);
            Edges.stands(x, "something and nothing", o -> o.otherwise(0, 0, 0, 2), 0);
        });
    }

    private static void otherwiseRefusals() {
        Edges.edge("12: BAD: a KIND 0 .. 4, the first and the second", () -> {
            Edges.range(SayingsEdgesTest::sixWords, "otherwise's first kind", 0, 4, FanTalk.BAD,
                    (x, v) -> x.otherwise(v, 0, 1, 0));
            Edges.range(SayingsEdgesTest::sixWords, "otherwise's second kind", 0, 4, FanTalk.BAD,
                    (x, v) -> x.otherwise(1, 0, v, 0));
        });
        Edges.edge("12: BAD: a CODE that is not there, the first and the second", () -> {
            Edges.range(SayingsEdgesTest::sixWords, "otherwise's first code", 0, 1, FanTalk.BAD,
                    (x, v) -> x.otherwise(0, v, 1, 0));
            Edges.range(SayingsEdgesTest::sixWords, "otherwise's second code", 0, 1, FanTalk.BAD,
                    (x, v) -> x.otherwise(0, 0, 1, v));
            Edges.refused(FanTalk::new, "otherwise by no codes", x -> x.otherwise(0, 0, 0, 0), FanTalk.BAD, BAD);
        });
        Edges.edge("12: BAD, once, where all four are not as told", () ->
            Edges.refused(Edges::some, "otherwise", x -> x.otherwise(9, 9, 9, 9), FanTalk.BAD, BAD));
    }

    private static void utter() {
        Edges.edge("13: BAD: a CODE that is not there", () -> {
            Edges.range(Edges::some, "utter's code", 0, 1, FanTalk.BAD, (x, v) -> x.utter(v));
            Edges.range(Edges::full, "utter's code", 0, 2, FanTalk.BAD, (x, v) -> x.utter(v));
            Edges.refused(FanTalk::new, "utter by no code", x -> x.utter(0), FanTalk.BAD, BAD);
        });
        Edges.edge("13: how many WORDS are READ: none, one, six; each may be undone", () -> {
            FanTalk x = Edges.codes("code;entry 0 1 0;");
            Edges.stands(x, "of no SAYING", o -> o.utter(0), 0);
            x.say(Edges.row(1));
            Edges.stands(x, "none", o -> o.utter(0), 0);
            x.say(Edges.row(0));
            Edges.stands(x, "one", o -> o.utter(0), 1);
            x.say(Edges.like(6, 0));
            Edges.stands(x, "six", o -> o.utter(0), 6);
            Edges.due("count(5)", x.count(5), 4);
            Edges.due("uses(1)", x.uses(1), 7);
        });
        Edges.edge("UTTERED to a FRIEND: by the longest, with DRAUGHTS", () -> {
            FanTalk x = Edges.codesAndSaying("code;entry 0 1 0;entry 0 2 0 0;entry 0 3 2;", 0, 0, 0);
            x.draughts(4);
            Edges.due("utter", x.utter(0), 2);
            Edges.due("uses(1)", x.uses(1), 0);
            Edges.due("uses(2)", x.uses(2), 1);
            Edges.due("uses(3)", x.uses(3), 1);
        });
    }

    /** A word of 996 uses, of 167 calls, and a saying of so many more. */
    private static FanTalk nearlyAll(int more) {
        FanTalk x = Edges.codesAndSaying("code;entry 0 9 0;entry 0 0 1;", 0, 0, 0, 0, 0, 0);
        for (int i = 0; i < 166; i++) {
            x.utter(0);
        }
        Edges.due("uses(9)", x.uses(9), 996);
        x.say(Edges.like(more, 0));
        return x;
    }

    private static void uses() {
        Edges.edge("14: BAD: a WORD 0 .. 9", () ->
            Edges.range(Edges::some, "uses' word", 0, 9, FanTalk.BAD, (x, v) -> x.uses(v)));
        Edges.edge("999 at most: 997, 998, 999, and no more", () -> {
            FanTalk x = nearlyAll(1);
            for (int i = 997; i < 1004; i++) {
                Edges.due("utter", x.utter(0), 1);
                Edges.due("uses(9)", x.uses(9), Math.min(i, 999));
            }
        });
        Edges.edge("999 at most: within one UTTERED one, of 3, 4, 6 words", () -> {
            for (int more : new int[] {3, 4, 6}) {
                FanTalk x = nearlyAll(more);
                Edges.stands(x, "how many are READ", o -> o.utter(0), more);
                Edges.stands(x, "uses(9)", o -> o.uses(9), 999);
                Edges.due("another word", x.uses(0), 0);
            }
        });
        Edges.edge("999 at most: UNDO goes back to what was ahead of it, not by how many were READ", () -> {
            FanTalk x = nearlyAll(5);
            x.utter(0);
            x.utter(0);
            Edges.due("uses(9)", x.uses(9), 999);
            Edges.due("undo()", x.undo(), 1);
            Edges.due("uses(9)", x.uses(9), 999);
            Edges.due("undo()", x.undo(), 1);
            Edges.due("uses(9)", x.uses(9), 996);
        });
        Edges.edge("999 at most: a YEAR makes them 0, and they are counted anew", () -> {
            FanTalk x = nearlyAll(6);
            x.utter(0);
            Edges.due("year()", x.year(), 1);
            Edges.due("uses(9)", x.uses(9), 0);
            x.utter(0);
            Edges.due("uses(9)", x.uses(9), 6);
        });
        Edges.edge("999 at most: digest() has them so", () -> {
            FanTalk x = nearlyAll(3);
            x.utter(0);
            long digest = x.digest();
            for (int i = 0; i < 6; i++) {
                x.utter(0);
            }
            Edges.due("digest()", x.digest(), digest);
        });
        Edges.edge("USES of a WORD: of both CODES that mean it, each WORD for itself", () -> {
            FanTalk x = Edges.codesAndSaying("code;entry 0 0 0;entry 0 9 1;code;entry 1 9 0 1;", 0, 1);
            x.utter(0);
            x.utter(1);
            for (int word = 0; word < 10; word++) {
                Edges.due("uses(" + word + ")", x.uses(word), word == 0 ? 1 : word == 9 ? 2 : 0);
            }
        });
    }

    private static void year() {
        Edges.edge("15: how many ENTRIES are gone: none of none, all of 24, all but what was used", () -> {
            Edges.stands(new FanTalk(), "year()", FanTalk::year, 0);
            Edges.stands(Edges.codes("code;code;code;"), "year()", FanTalk::year, 0);
            FanTalk x = Edges.full();
            Edges.stands(x, "year()", FanTalk::year, 21);
            Edges.due("count(1)", x.count(1), 3);
            Edges.stands(x, "year()", FanTalk::year, 3);
            Edges.due("count(1)", x.count(1), 0);
            Edges.stands(x, "year()", FanTalk::year, 0);
            Edges.due("CODES stay", x.count(0), 3);
        });
        Edges.edge("whose WORD has no USES: one is enough, by whatever CODE; words 0 and 9", () -> {
            FanTalk x = Edges.codesAndSaying("code;entry 0 0 0;entry 0 9 1;entry 0 5 2;code;entry 1 0 9;entry 1 9 10;"
                    + "entry 1 4 0;", 0, 1);
            x.utter(0);
            Edges.due("year()", x.year(), 2);
            Edges.due("uses(0)", x.uses(0), 0);
            Edges.due("uses(9)", x.uses(9), 0);
            Edges.due("told", x.told(1, 1, 1), 9);
            Edges.due("told", x.told(1, 2, 1), FanTalk.BAD);
        });
        Edges.edge("others close up: the first, one between, the last are gone", () -> {
            FanTalk x = Edges.codesAndSaying("code;entry 0 1 11;entry 0 2 0;entry 0 3 10;entry 0 4 1;entry 0 5 9;",
                    0, 1);
            x.utter(0);
            Edges.due("year()", x.year(), 3);
            Edges.due("told", x.told(0, 0, 0), Edges.row(0));
            Edges.due("told", x.told(0, 0, 1), 2);
            Edges.due("told", x.told(0, 1, 0), Edges.row(1));
            Edges.due("told", x.told(0, 1, 1), 4);
            Edges.due("told", x.told(0, 2, 0), FanTalk.BAD);
            Edges.reads(x, 0, 0, "24");
        });
        Edges.edge("gone: its ROW may come again, eight fit again", () -> {
            FanTalk x = Edges.full();
            x.year();
            Edges.due("a row that is there", x.entry(0, 1, Edges.row(4)), FanTalk.NO);
            for (int i = 0; i < 7; i++) {
                Edges.due("entry", x.entry(0, 1, Edges.row(i < 4 ? i : i + 1)), i + 1);
            }
            Edges.due("a 9th", x.entry(0, 1, Edges.row(9)), FanTalk.FULL);
        });
        Edges.edge("15: THE SAYING, DRAUGHTS, WANT, FACTS stay", () -> {
            FanTalk x = Edges.full();
            x.year();
            Edges.due("count(2)", x.count(2), 6);
            Edges.due("count(3)", x.count(3), 4);
            Edges.due("count(4)", x.count(4), 8);
            Edges.due("count(7)", x.count(7), 63);
        });
    }

    private static void undo() {
        Edges.edge("16: NO: none may be", () -> {
            Edges.refused(FanTalk::new, "undo()", FanTalk::undo, FanTalk.NO, NO);
            Edges.refused(SayingsEdgesTest::sixWords, "undo()", FanTalk::undo, FanTalk.NO, NO);
        });
        Edges.edge("6 at most: the last six of 5, 6, 7, 8, 13, the newest first; then NO", () -> {
            for (int many : new int[] {0, 1, 5, 6, 7, 8, 13}) {
                FanTalk x = sixWords();
                for (int i = 1; i <= many; i++) {
                    x.utter(0);
                    Edges.due("count(5)", x.count(5), Math.min(6, i));
                }
                int kept = Math.min(6, many);
                for (int i = 1; i <= kept; i++) {
                    Edges.stands(x, "undo()", FanTalk::undo, 1);
                    Edges.due("uses(9)", x.uses(9), 3 * (many - i));
                    Edges.due("count(5)", x.count(5), kept - i);
                }
                Edges.due("undo()", x.undo(), FanTalk.NO);
                Edges.due("uses(9)", x.uses(9), 3 * (many - kept));
                Edges.status(x, 0, 1, 0);
            }
        });
        Edges.edge("6 at most: of years and UTTERED ones together", () -> {
            FanTalk x = sixWords();
            x.year();
            x.undo();
            for (int i = 0; i < 8; i++) {
                Edges.due("utter, year", i % 2 == 0 ? x.utter(0) : x.year(), i % 2 == 0 ? 6 : 0);
            }
            for (int i = 7; i >= 2; i--) {
                Edges.due("undo()", x.undo(), 1);
                Edges.due("uses(9)", x.uses(9), i % 2 == 0 ? 0 : 3);
                Edges.due("count(1)", x.count(1), 2);
            }
            Edges.due("undo()", x.undo(), FanTalk.NO);
        });
        Edges.edge("as ahead of the last one: behind an UNDO another one may be undone", () -> {
            FanTalk x = sixWords();
            for (int i = 0; i < 6; i++) {
                x.utter(0);
            }
            x.undo();
            x.undo();
            x.utter(0);
            Edges.due("count(5)", x.count(5), 5);
            Edges.due("uses(9)", x.uses(9), 15);
            x.undo();
            Edges.due("uses(9)", x.uses(9), 12);
        });
        Edges.edge("CODES, USES: a YEAR's ENTRIES come back, as they stood", () -> {
            FanTalk x = Edges.full();
            long codes = codesAndUses(x);
            x.year();
            x.year();
            Edges.due("count(1)", x.count(1), 0);
            x.undo();
            Edges.due("count(1)", x.count(1), 3);
            x.undo();
            Edges.due("CODES, USES", codesAndUses(x), codes);
            Edges.due("told", x.told(2, 7, 0), Edges.row(9));
        });
        Edges.edge("UNDO: nothing but CODES, USES: THE SAYING, DRAUGHTS, WANT, FACTS, THE TEXT stay", () -> {
            FanTalk x = Edges.some();
            x.say(Edges.row(3));
            x.draughts(1);
            x.want(5);
            x.fact(12, 5);
            x.type(32, 1);
            x.undo();
            int[] due = {2, 2, 1, 3, 3, 3, 28, 1};
            for (int what = 0; what < 8; what++) {
                Edges.due("count(" + what + ")", x.count(what), due[what]);
            }
            Edges.due("seen(0)", x.seen(0), 5);
        });
    }

    /** A number that changes with CODES and USES alone. */
    private static long codesAndUses(FanTalk x) {
        long h = 1;
        for (int i = 0; i < 24; i++) {
            if (x.count(1) > 0) {
                h = 31 * h + x.told(i / 8, i % 8, 0);
                h = 31 * h + x.told(i / 8, i % 8, 1);
            }
        }
        for (int word = 0; word < 10; word++) {
            h = 31 * h + x.uses(word);
        }
        return h;
    }

    private static void undoneNoMore() {
        Edges.edge("nothing may be undone then: code, entry, read; all else leaves what may be", () -> {
            Edges.Call[] calls = {x -> x.told(0, 0, 0), x -> x.draughts(1), x -> x.type(32, 1), FanTalk::clear,
                x -> x.say(12), x -> x.seen(0), x -> x.reads(0, 0, 0), x -> x.otherwise(0, 0, 1, 1), x -> x.uses(0),
                x -> x.want(1), FanTalk::forget, x -> x.hide(0, 0, 0), x -> x.save(0, 1, 1), x -> x.safe(0),
                x -> x.fact(12, 1), FanTalk::mayBe, x -> x.heat(0, 0, 0, 9, 9), x -> x.image(0), x -> x.status(0),
                x -> x.status(3), x -> x.count(0), x -> x.count(8), FanTalk::digest, x -> x.entry(0, 1, 24),
                x -> x.entry(0, 1, 14), x -> x.utter(2), x -> x.say(148), x -> x.from(2)};
            for (Edges.Call call : calls) {
                FanTalk x = Edges.some();
                call.on(x);
                Edges.due("count(5)", x.count(5), 4);
            }
            Edges.Call[] last = {FanTalk::code, x -> x.entry(0, 1, 23), FanTalk::read};
            for (Edges.Call call : last) {
                FanTalk x = Edges.some();
                call.on(x);
                Edges.due("count(5)", x.count(5), 0);
                Edges.due("undo()", x.undo(), FanTalk.NO);
            }
        });
        Edges.edge("nothing may be undone then: what comes behind it may", () -> {
            FanTalk x = Edges.some();
            x.entry(0, 1, 23);
            x.utter(0);
            Edges.due("count(5)", x.count(5), 1);
            Edges.due("undo()", x.undo(), 1);
            Edges.due("the entry stays", x.count(1), 3);
            Edges.due("undo()", x.undo(), FanTalk.NO);
        });
    }
}

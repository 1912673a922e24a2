import java.math.BigInteger;

/** The edges of promises 17 to 24: what is wanted, hidden, saved, safe, what may be, and the heat. */
public final class SearchEdgesTest {
    private static final int BAD = Edges.BAD, NO = Edges.NO, FULL = Edges.FULL;

    public static void main(String[] args) {
        want();
        forget();
        hideRefusals();
        hide();
        hideWords();
        saveRefusals();
        save();
        saveAll();
        safe();
        fact();
        mayBe();
        heat();
        heatStates();
        Edges.end("edges of what to say");
    }

    private static void want() {
        Edges.edge("17: BAD: a WORD 0 .. 9", () ->
            Edges.range(FanTalk::new, "want", 0, 9, FanTalk.BAD, (x, v) -> x.want(v)));
        Edges.edge("WANT: 0 to 4 WORDS, as they come: how many", () -> {
            FanTalk x = new FanTalk();
            Edges.due("count(3)", x.count(3), 0);
            for (int i = 1; i <= 4; i++) {
                Edges.stands(x, "want", o -> o.want(9), i);
                Edges.due("count(3)", x.count(3), i);
            }
        });
        Edges.edge("17: FULL: 4", () -> {
            Edges.refused(Edges::full, "a 5th", x -> x.want(0), FanTalk.FULL, FULL);
            Edges.refused(Edges::full, "a 5th", x -> x.want(9), FanTalk.FULL, FULL);
        });
        Edges.edge("the first of: BAD ahead of FULL (want)", () -> {
            for (int word : new int[] {-1, 10, Integer.MIN_VALUE, Integer.MAX_VALUE}) {
                Edges.refused(Edges::full, "a 5th that is none", x -> x.want(word), FanTalk.BAD, BAD);
            }
        });
        Edges.edge("WANT, as they come: the order counts, a word may come again", () -> {
            FanTalk x = Edges.codes("code;entry 0 1 0;entry 0 2 1;");
            x.want(2);
            x.want(1);
            x.want(2);
            Edges.due("hide", x.hide(0, 0, 5), Edges.row(1, 0, 1));
        });
    }

    private static void forget() {
        Edges.edge("18: WANT is empty: how many it had: 0 to 4", () -> {
            for (int n = 0; n <= 4; n++) {
                FanTalk x = new FanTalk();
                for (int i = 0; i < n; i++) {
                    x.want(i);
                }
                Edges.stands(x, "forget()", FanTalk::forget, n);
                Edges.due("count(3)", x.count(3), 0);
                Edges.stands(x, "forget() again", FanTalk::forget, 0);
                Edges.stands(x, "want", o -> o.want(5), 1);
            }
        });
        Edges.edge("18: what was wanted is in no digest and no HIDE any more", () -> {
            FanTalk x = Edges.codes("code;entry 0 1 0;");
            long digest = x.digest();
            x.want(1);
            x.want(9);
            x.forget();
            Edges.due("digest()", x.digest(), digest);
            Edges.due("hide", x.hide(0, 0, 0), Edges.row(1));
        });
    }

    private static FanTalk pairs() {
        FanTalk x = Edges.codes("code;entry 0 1 0;entry 0 2 2 4;code;entry 1 3 1;");
        x.want(1);
        return x;
    }

    private static void hideRefusals() {
        Edges.edge("19: BAD: -10: a CODE that is not there, the first and the second", () -> {
            Edges.range(SearchEdgesTest::pairs, "hide's first code", 0, 1, -10, (x, v) -> x.hide(v, 0, 0));
            Edges.range(SearchEdgesTest::pairs, "hide's second code", 0, 1, -10, (x, v) -> x.hide(0, v, 0));
            Edges.refused(FanTalk::new, "hide by no code", x -> x.hide(0, 0, 0), -10, BAD);
        });
        Edges.edge("19: BAD: -10: k (0 .. 5)", () ->
            Edges.range(SearchEdgesTest::pairs, "hide's k", 0, 5, -10, (x, v) -> x.hide(0, 1, v)));
        Edges.edge("19: NONE is not refused; nothing is changed by a search", () -> {
            FanTalk x = pairs();
            x.forget();
            x.want(7);
            long digest = x.digest();
            Edges.stands(x, "hide", o -> o.hide(0, 0, 5), FanTalk.NONE);
            Edges.due("digest()", x.digest(), digest);
        });
    }

    private static void hide() {
        Edges.edge("HIDE: 1 to 5 BEATS: each number of beats is the shortest once", () -> {
            FanTalk x = Edges.codes("code;entry 0 1 0;entry 0 2 1 1;entry 0 3 2 2 2;code;");
            Edges.due("nothing is wanted", x.hide(0, 1, 0), Edges.row(1));
            x.want(1);
            Edges.due("one", x.hide(0, 1, 0), Edges.row(0));
            x.want(2);
            Edges.due("three", x.hide(0, 1, 0), Edges.row(0, 1, 1));
            x.forget();
            x.want(2);
            Edges.due("two", x.hide(0, 1, 0), Edges.row(1, 1));
            x.want(2);
            Edges.due("four", x.hide(0, 1, 0), Edges.row(1, 1, 1, 1));
            x.want(1);
            Edges.due("five", x.hide(0, 1, 0), Edges.row(1, 1, 1, 1, 0));
            x.want(1);
            Edges.due("six are too many", x.hide(0, 1, 0), FanTalk.NONE);
            x.forget();
            x.want(3);
            x.want(2);
            Edges.due("five", x.hide(0, 1, 0), Edges.row(2, 2, 2, 1, 1));
            x.forget();
            x.want(3);
            x.want(3);
            Edges.due("twice three are too many", x.hide(0, 1, 0), FanTalk.NONE);
        });
        Edges.edge("of like ones the least number: STATES 0 and 11", () -> {
            for (int s = 0; s < 12; s++) {
                FanTalk x = Edges.codes("code;entry 0 1 " + s + ";");
                Edges.due("nothing is wanted", x.hide(0, 0, 0), Edges.row(s == 0 ? 1 : 0));
                x.want(1);
                Edges.due("one", x.hide(0, 0, 5), Edges.row(s));
                Edges.due("where she does not see it", x.hide(0, 0, 0), hiding(s));
            }
        });
        Edges.edge("LAWFUL: what no LAWFUL ROW has is told by none", () -> {
            FanTalk x = Edges.codes("code;entry 0 1 0 4;entry 0 2 0;entry 0 3 11;entry 0 4 1 3 5;");
            x.want(1);
            Edges.due("an ENTRY that is not LAWFUL", x.hide(0, 0, 5), FanTalk.NONE);
            x.forget();
            x.want(2);
            x.want(3);
            Edges.due("open 0 and 5 are six BEATS", x.hide(0, 0, 5), FanTalk.NONE);
            x.forget();
            x.want(4);
            Edges.due("one that is LAWFUL", x.hide(0, 0, 5), Edges.row(1, 3, 5));
        });
        Edges.edge("HIDE: none, where no STATE up to 11 does: a STATE is no more than 11", () -> {
            FanTalk x = Edges.codes("code;entry 0 1 9;code;entry 1 0 6;entry 1 0 7;entry 1 0 8;entry 1 0 9;"
                    + "entry 1 0 11;entry 1 0 10 10;");
            x.want(1);
            Edges.due("no word of hers", x.hide(0, 1, 0), FanTalk.NONE);
            Edges.due("one word of hers", x.hide(0, 1, 1), Edges.row(9));
        });
        Edges.edge("DRAUGHTS are not asked: each set", () -> {
            FanTalk x = pairs();
            for (int set = 0; set < 64; set++) {
                x.draughts(set);
                Edges.due("hide", x.hide(0, 0, 0), Edges.row(1, 1, 0));
            }
        });
        Edges.edge("just WANT: no word ahead, between, behind", () -> {
            FanTalk x = Edges.codes("code;entry 0 1 2 2;entry 0 2 2;entry 0 3 0;entry 0 4 1;");
            x.want(1);
            Edges.due("hide", x.hide(0, 0, 5), Edges.row(2, 2));
            Edges.due("she would read a part of it", x.hide(0, 0, 0), FanTalk.NONE);
            x.want(2);
            Edges.due("hide", x.hide(0, 0, 5), Edges.row(2, 2, 2));
        });
    }

    /** The least LAWFUL row of three in which a state that is read stands where a chaperone does not see it. */
    private static int hiding(int s) {
        for (int row = 1728; row < 3456; row++) {
            int a = row / 144 % 12;
            int b = row / 12 % 12;
            boolean lawful = Math.abs(a / 2 - b / 2) <= 1 && Math.abs(b / 2 - s / 2) <= 1;
            if (row % 12 == s && a != s && b != s && lawful) {
                return row;
            }
        }
        return FanTalk.NONE;
    }

    private static void hideWords() {
        Edges.edge("a CHAPERONE READS k (0 .. 5) WORDS at most: just k, one less", () -> {
            FanTalk x = Edges.codes("code;entry 0 1 0;");
            for (int n = 0; n <= 4; n++) {
                int seen = n < 3 ? n : n - 1;
                for (int k = 0; k <= 5; k++) {
                    if (k >= seen) {
                        int row = n == 0 ? Edges.row(1) : Edges.like(n, 0);
                        Edges.due("hide of " + n + " with " + k, x.hide(0, 0, k), row);
                    } else {
                        Edges.due("hide of " + n + " with " + k, x.hide(0, 0, k) == Edges.like(n, 0) ? 1 : 0, 0);
                    }
                }
                x.want(1);
            }
        });
        Edges.edge("by another one (or that one): the chaperone's words are those of her CODE", () -> {
            FanTalk x = Edges.codes("code;entry 0 1 0;code;entry 1 2 0;entry 1 3 1;");
            x.want(1);
            Edges.due("by her own", x.hide(0, 1, 0), Edges.row(2, 2, 0));
            Edges.due("one word of hers", x.hide(0, 1, 1), Edges.row(0));
            Edges.due("the other way round", x.hide(1, 0, 0), FanTalk.NONE);
            x.forget();
            x.want(3);
            Edges.due("what she has no word for", x.hide(1, 0, 0), Edges.row(1));
        });
    }

    private static FanTalk twos() {
        return Edges.codesAndSaying("code;entry 0 1 2;entry 0 9 2 2;code;", 2, 2, 2);
    }

    private static void saveRefusals() {
        Edges.edge("20: BAD: -10: a CODE, a WORD (0 .. 9), a what (0, 1)", () -> {
            Edges.range(SearchEdgesTest::twos, "save's code", 0, 1, -10, (x, v) -> x.save(v, 1, 0));
            Edges.range(SearchEdgesTest::twos, "save's word", 0, 9, -10, (x, v) -> x.save(0, v, 0));
            Edges.range(SearchEdgesTest::twos, "save's what", 0, 1, -10, (x, v) -> x.save(0, 1, v));
            Edges.refused(FanTalk::new, "save by no code", x -> x.save(0, 1, 0), -10, BAD);
        });
        Edges.edge("20: NO: -20: there is no SAYING", () -> {
            Edges.refused(() -> Edges.codes("code;entry 0 1 2;"), "save", x -> x.save(0, 1, 0), -20, NO);
            Edges.refused(() -> Edges.codes("code;"), "save", x -> x.save(0, 9, 1), -20, NO);
        });
        Edges.edge("the first of: BAD (-10) ahead of NO (-20)", () -> {
            int[][] bad = {{-1, 0, 0}, {1, 0, 0}, {0, -1, 0}, {0, 10, 0}, {0, 0, -1}, {0, 0, 2}, {9, 99, 999}};
            for (int[] b : bad) {
                Edges.refused(() -> Edges.codes("code;"), "save", x -> x.save(b[0], b[1], b[2]), -10, BAD);
            }
        });
        Edges.edge("20: a search changes nothing: THE SAYING is as it was", () -> {
            FanTalk x = twos();
            long digest = x.digest();
            Edges.stands(x, "save", o -> o.save(0, 1, 1), Edges.row(0, 2, 2));
            Edges.due("digest()", x.digest(), digest);
            Edges.due("seen(0)", x.seen(0), 2);
        });
    }

    private static void save() {
        Edges.edge("SAVE: the fewest BEATS: none, where the WORD is not READ; the ROW: THE SAYING's", () -> {
            FanTalk x = twos();
            for (int word = 0; word < 10; word++) {
                if (word != 1 && word != 9) {
                    int w = word;
                    Edges.stands(x, "save", o -> o.save(0, w, 0), 0);
                    Edges.stands(x, "save", o -> o.save(0, w, 1), Edges.row(2, 2, 2));
                }
            }
            Edges.due("by an empty code", x.save(1, 1, 0), 0);
            Edges.due("by an empty code", x.save(1, 1, 1), Edges.row(2, 2, 2));
        });
        Edges.edge("SAVE of one BEAT: the least and the greatest STATE", () -> {
            FanTalk x = Edges.codesAndSaying("code;entry 0 1 0;entry 0 1 11;entry 0 2 10;", 11);
            Edges.due("save", x.save(0, 1, 0), 1);
            Edges.due("save", x.save(0, 1, 1), Edges.row(1));
            x.say(Edges.row(0));
            Edges.due("save", x.save(0, 1, 1), Edges.row(1));
            x.say(Edges.row(10));
            Edges.due("save", x.save(0, 2, 1), Edges.row(0));
        });
        Edges.edge("(as it was made) .. with DRAUGHTS: they count in what is read, not in what is changed", () -> {
            FanTalk x = Edges.codesAndSaying("code;entry 0 1 4;", 2, 2);
            x.draughts(1);
            Edges.due("save", x.save(0, 1, 0), 1);
            Edges.due("the ROW as it is made", x.save(0, 1, 1), Edges.row(0, 2));
            x.draughts(2);
            Edges.due("the ROW as it is made", x.save(0, 1, 1), Edges.row(2, 0));
            x.draughts(60);
            Edges.due("no draught of its BEATS", x.save(0, 1, 0), 0);
            x.say(Edges.row(10));
            x.draughts(1);
            Edges.due("open 5 stays", x.save(0, 1, 0), 0);
        });
        Edges.edge("so that it is LAWFUL: one change is not enough where its neighbours are too far", () -> {
            FanTalk x = Edges.codesAndSaying("code;entry 0 1 8;entry 0 1 9;entry 0 1 10;entry 0 2 11 11;", 11, 8);
            Edges.due("save", x.save(0, 1, 0), 1);
            Edges.due("save", x.save(0, 1, 1), Edges.row(11, 11));
            Edges.due("that reads word 2", x.save(0, 2, 0), 0);
            x = Edges.codesAndSaying("code;entry 0 1 8;entry 0 1 9;entry 0 1 10;entry 0 1 11 11;", 11, 8);
            Edges.due("both", x.save(0, 1, 0), 2);
            Edges.due("both", x.save(0, 1, 1), Edges.row(0, 0));
        });
    }

    private static void saveAll() {
        String eight = "code;entry 0 1 0;entry 0 1 1;entry 0 1 2;entry 0 1 3;entry 0 1 4;entry 0 1 5;entry 0 1 6;"
                + "entry 0 1 7;";
        Edges.edge("the fewest BEATS: all that there are, of 1 to 6", () -> {
            for (int n = 1; n <= 6; n++) {
                FanTalk x = Edges.codes(eight);
                x.say(Edges.like(n, 0));
                Edges.stands(x, "how many", o -> o.save(0, 1, 0), n);
                Edges.stands(x, "the least ROW", o -> o.save(0, 1, 1), Edges.like(n, 8));
                x.draughts(63);
                Edges.stands(x, "how many, in draughts", o -> o.save(0, 1, 0), n);
                Edges.stands(x, "the least ROW, in draughts", o -> o.save(0, 1, 1), Edges.like(n, 6));
            }
        });
        Edges.edge("of like ones the least number: one change of two that would do", () -> {
            FanTalk x = Edges.codesAndSaying("code;entry 0 1 4 4;", 4, 4);
            Edges.due("save", x.save(0, 1, 0), 1);
            Edges.due("save", x.save(0, 1, 1), Edges.row(2, 4));
            x.say(Edges.row(4, 4, 4));
            Edges.due("save", x.save(0, 1, 0), 1);
            Edges.due("save", x.save(0, 1, 1), Edges.row(4, 2, 4));
            x.say(Edges.like(6, 4));
            Edges.due("three pairs", x.save(0, 1, 0), 3);
            Edges.due("three pairs", x.save(0, 1, 1), Edges.row(2, 4, 2, 4, 2, 4));
        });
        Edges.edge("20: none: with eight ENTRIES a ROW is left to each SAYING", () -> {
            String[] codes = {eight, "code;entry 0 1 2;entry 0 1 3;entry 0 1 4;entry 0 1 5;entry 0 1 6;entry 0 1 7;"
                    + "entry 0 1 8;entry 0 1 9;", "code;entry 0 1 10;entry 0 1 11;entry 0 1 0 0;entry 0 1 1 1;"
                    + "entry 0 1 2 2;entry 0 1 3 3;entry 0 1 4 4;entry 0 1 5 5;"};
            for (String code : codes) {
                FanTalk x = Edges.codes(code);
                for (int s = 0; s < 12; s++) {
                    x.say(Edges.like(6, s));
                    x.draughts(21 + s);
                    Edges.due("save has none", x.save(0, 1, 0) == FanTalk.NONE ? 1 : 0, 0);
                }
            }
        });
    }

    private static void safe() {
        Edges.edge("21: BAD: a CODE that is not there", () -> {
            Edges.range(Edges::some, "safe's code", 0, 1, FanTalk.BAD, (x, v) -> x.safe(v));
            Edges.range(Edges::full, "safe's code", 0, 2, FanTalk.BAD, (x, v) -> x.safe(v));
            Edges.refused(FanTalk::new, "safe by no code", x -> x.safe(0), FanTalk.BAD, BAD);
        });
        Edges.edge("WORDS (bits) of a CODE's ENTRIES: none of none, 0 to 9", () -> {
            Edges.stands(Edges.codes("code;"), "safe", x -> x.safe(0), 0);
            for (int word = 0; word < 10; word++) {
                Edges.stands(Edges.codes("code;entry 0 " + word + " 3 3;"), "safe", x -> x.safe(0), 1 << word);
            }
            FanTalk x = Edges.codes("code;entry 0 0 0;entry 0 1 1;entry 0 2 4;entry 0 3 5;entry 0 6 8;entry 0 7 9;"
                    + "entry 0 8 0 11 0;entry 0 9 9 0 9;");
            Edges.stands(x, "eight", o -> o.safe(0), 1 + 2 + 4 + 8 + 64 + 128);
        });
        Edges.edge("by whatever DRAUGHTS: of the first, the second, the third BEAT, of all of them", () -> {
            Edges.due("none makes it", Edges.codes("code;entry 0 0 4 4 4;entry 0 1 4 4 8;").safe(0), 3);
            Edges.due("the first", Edges.codes("code;entry 0 0 4 4 4;entry 0 1 6 4 4;").safe(0), 2);
            Edges.due("the second", Edges.codes("code;entry 0 0 4 4 4;entry 0 1 4 6 4;").safe(0), 2);
            Edges.due("the third", Edges.codes("code;entry 0 0 4 4 4;entry 0 1 4 4 6;").safe(0), 2);
            Edges.due("all three", Edges.codes("code;entry 0 0 4 4 4;entry 0 1 6 6 6;").safe(0), 2);
            Edges.due("a part of it", Edges.codes("code;entry 0 0 4 4 4;entry 0 1 6;").safe(0), 2);
        });
        Edges.edge("by whatever DRAUGHTS: OPEN 5 at most", () -> {
            Edges.due("8 is 10", Edges.codes("code;entry 0 0 8;entry 0 1 10;").safe(0), 2);
            Edges.due("9 is 11", Edges.codes("code;entry 0 0 9;entry 0 1 11;").safe(0), 2);
            Edges.due("10 is 10", Edges.codes("code;entry 0 0 10;entry 0 1 0;").safe(0), 3);
            Edges.due("9 is not 10", Edges.codes("code;entry 0 0 9;entry 0 1 10;").safe(0), 3);
        });
        Edges.edge("each of whose ROWS; as no other WORD (nothing, or that one)", () -> {
            Edges.due("nothing", Edges.codes("code;entry 0 5 0 0;").safe(0), 32);
            Edges.due("that one", Edges.codes("code;entry 0 5 0;entry 0 5 2;").safe(0), 32);
            Edges.due("that one twice", Edges.codes("code;entry 0 5 0 0;entry 0 5 2;").safe(0), 32);
            Edges.due("one of its rows is not", Edges.codes("code;entry 0 5 11;entry 0 5 0;entry 0 6 2;").safe(0), 64);
            Edges.due("the other one is not", Edges.codes("code;entry 0 5 0;entry 0 6 2;entry 0 5 11;").safe(0), 64);
        });
        Edges.edge("SAFE: DRAUGHTS there are, THE SAYING are not asked", () -> {
            FanTalk x = Edges.codesAndSaying("code;entry 0 0 4;entry 0 1 8;", 4);
            for (int set = 0; set < 64; set++) {
                x.draughts(set);
                Edges.due("safe", x.safe(0), 3);
            }
        });
    }

    private static void fact() {
        Edges.edge("FACTS: a ROW of 1 to 5 STATES: the least and the greatest of each, BAD beside these", () ->
            Edges.rows(Edges::some, "fact", 5, (x, v) -> x.fact(v, 1)));
        Edges.edge("22: BAD: a WORD 0 .. 9", () ->
            Edges.range(Edges::some, "fact's word", 0, 9, FanTalk.BAD, (x, v) -> x.fact(12, v)));
        Edges.edge("FACTS 0 .. 7, as they come: its number; the same one again, too", () -> {
            FanTalk x = new FanTalk();
            for (int i = 0; i < 8; i++) {
                Edges.stands(x, "fact", o -> o.fact(12, 3), i);
                Edges.due("count(4)", x.count(4), i + 1);
            }
            Edges.due("fact", x.fact(12, 3), FanTalk.FULL);
            Edges.due("count(4)", x.count(4), 8);
        });
        Edges.edge("FACTS: a ROW (LAWFUL or not)", () -> {
            FanTalk x = Edges.codes("code;entry 0 1 0 11;");
            Edges.stands(x, "fact", o -> o.fact(Edges.row(5, 0, 11), 1), 0);
            Edges.due("mayBe()", x.mayBe(), 1);
        });
        Edges.edge("22: FULL: 8", () ->
            Edges.refused(Edges::full, "a 9th", x -> x.fact(12, 0), FanTalk.FULL, FULL));
        Edges.edge("the first of: BAD ahead of FULL (fact)", () -> {
            Edges.refused(Edges::full, "a 9th, no row", x -> x.fact(24, 0), FanTalk.BAD, BAD);
            Edges.refused(Edges::full, "a 9th, six STATES", x -> x.fact(2985984, 0), FanTalk.BAD, BAD);
            Edges.refused(Edges::full, "a 9th, no word", x -> x.fact(12, 10), FanTalk.BAD, BAD);
            Edges.refused(Edges::full, "a 9th, no word", x -> x.fact(12, -1), FanTalk.BAD, BAD);
        });
    }

    private static void mayBe() {
        Edges.edge("MAY BE: CODES (bits): none of none, one, two, three", () -> {
            Edges.stands(new FanTalk(), "mayBe()", FanTalk::mayBe, 0);
            Edges.stands(Edges.codes("code;"), "mayBe()", FanTalk::mayBe, 1);
            Edges.stands(Edges.codes("code;code;"), "mayBe()", FanTalk::mayBe, 3);
            Edges.stands(Edges.codes("code;code;code;"), "mayBe()", FanTalk::mayBe, 7);
        });
        Edges.edge("MAY BE: a FACT, and no CODES; an empty CODE", () -> {
            FanTalk x = new FanTalk();
            x.fact(12, 0);
            Edges.due("mayBe()", x.mayBe(), 0);
            x.code();
            Edges.due("mayBe()", x.mayBe(), 0);
        });
        Edges.edge("the WORD of each FACT: the first, the eighth", () -> {
            for (int odd = 0; odd < 8; odd++) {
                FanTalk x = Edges.codes("code;entry 0 0 0;entry 0 9 1;code;entry 1 0 0;code;entry 2 9 1;entry 2 0 0;");
                for (int i = 0; i < 8; i++) {
                    x.fact(i == odd ? 13 : 12, i == odd ? 9 : 0);
                }
                Edges.due("mayBe()", x.mayBe(), 5);
            }
        });
        Edges.edge("in its ROW (others too, perhaps): as its first, its last of five", () -> {
            FanTalk x = Edges.codes("code;entry 0 1 0;entry 0 2 11;code;entry 1 1 0;");
            x.fact(Edges.row(0, 11, 11, 11, 11), 1);
            Edges.due("mayBe()", x.mayBe(), 3);
            x.fact(Edges.row(11, 11, 11, 11, 0), 1);
            Edges.due("mayBe()", x.mayBe(), 3);
            x.fact(Edges.row(0, 0, 0, 0, 11), 2);
            Edges.due("mayBe()", x.mayBe(), 1);
        });
        Edges.edge("a FRIEND READS: the longest one hides the shorter; no DRAUGHTS", () -> {
            FanTalk x = Edges.codes("code;entry 0 1 0;entry 0 2 0 0;");
            x.fact(Edges.row(0, 0), 2);
            x.draughts(63);
            Edges.due("mayBe()", x.mayBe(), 1);
            x.fact(Edges.row(0, 0), 1);
            Edges.due("mayBe()", x.mayBe(), 0);
        });
    }

    private static void heat() {
        Edges.edge("24: BAD: a KIND 0 .. 4", () ->
            Edges.range(Edges::some, "heat's kind", 0, 4, FanTalk.BAD, (x, v) -> x.heat(v, 0, 1, 9, 9)));
        Edges.edge("24: BAD: a CODE that is not there", () -> {
            Edges.range(Edges::some, "heat's code", 0, 1, FanTalk.BAD, (x, v) -> x.heat(0, v, 1, 9, 9));
            Edges.refused(FanTalk::new, "heat by no code", x -> x.heat(0, 0, 0, 0, 0), FanTalk.BAD, BAD);
        });
        Edges.edge("24: BAD: a WORD 0 .. 9", () ->
            Edges.range(Edges::some, "heat's word", 0, 9, FanTalk.BAD, (x, v) -> x.heat(0, 0, v, 9, 9)));
        Edges.edge("n (0 .. 60) BEATS", () ->
            Edges.range(Edges::some, "heat's n", 0, 60, FanTalk.BAD, (x, v) -> x.heat(0, 0, 1, v, 9)));
        Edges.edge("a SEED (0 .. 999999)", () ->
            Edges.range(Edges::some, "heat's seed", 0, 999999, FanTalk.BAD, (x, v) -> x.heat(0, 0, 1, 60, v)));
        Edges.edge("HEAT: no LAW, no DRAUGHTS; nothing is changed", () -> {
            FanTalk x = Edges.some();
            long digest = x.digest();
            long read = x.heat(0, 0, 1, 60, 7);
            Edges.due("digest()", x.digest(), digest);
            x.draughts(0);
            Edges.due("heat", x.heat(0, 0, 1, 60, 7), read);
            x.draughts(63);
            Edges.due("heat", x.heat(0, 0, 1, 60, 7), read);
        });
        Edges.edge("n = 0: no word; how often: a WORD that the CODE has not, an empty CODE: never", () -> {
            FanTalk x = Edges.codes("code;entry 0 1 0;code;");
            Edges.stands(x, "heat", o -> o.heat(0, 0, 1, 0, 0), 0);
            Edges.stands(x, "heat", o -> o.heat(0, 0, 2, 60, 0), 0);
            Edges.stands(x, "heat", o -> o.heat(0, 1, 1, 60, 0), 0);
        });
    }

    /** The STATES of a heat, by whole numbers without a bound. */
    private static int[] states(int seed, int n) {
        BigInteger x = BigInteger.valueOf(seed);
        BigInteger bound = BigInteger.valueOf(2147483648L);
        int[] states = new int[n];
        for (int i = 0; i < n; i++) {
            x = x.multiply(BigInteger.valueOf(1103515245)).add(BigInteger.valueOf(12345)).mod(bound);
            states[i] = x.divide(BigInteger.valueOf(65536)).mod(BigInteger.valueOf(12)).intValue();
        }
        return states;
    }

    private static void heatStates() {
        Edges.edge("HEAT by a SEED: the least, the greatest, those beside them; each of 60 BEATS", () -> {
            for (int seed : new int[] {0, 1, 2, 65535, 65536, 499999, 999998, 999999}) {
                int[] states = states(seed, 60);
                for (int half = 0; half < 2; half++) {
                    StringBuilder text = new StringBuilder("code;");
                    for (int i = 0; i < 6; i++) {
                        text.append("entry 0 ").append(i).append(' ').append(6 * half + i).append(';');
                    }
                    FanTalk x = Edges.codes(text.toString());
                    for (int word = 0; word < 6; word++) {
                        for (int n = 0; n <= 60; n++) {
                            long due = 0;
                            for (int i = 0; i < n; i++) {
                                due += states[i] == 6 * half + word ? 1 : 0;
                            }
                            Edges.due("heat of " + n + " by " + seed, x.heat(0, 0, word, n, seed), due);
                        }
                    }
                }
            }
        });
        Edges.edge("HEAT: an ENTRY that goes past the n-th BEAT is not read", () -> {
            int[] s = states(5, 60);
            FanTalk x = Edges.codes("code;entry 0 1 " + s[57] + " " + s[58] + " " + s[59] + ";");
            long all = x.heat(0, 0, 1, 60, 5);
            Edges.due("the last three BEATS of 60", all - x.heat(0, 0, 1, 59, 5), 1);
        });
    }
}

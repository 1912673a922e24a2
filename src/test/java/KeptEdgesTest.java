import java.math.BigInteger;
import java.util.ArrayList;
import java.util.Arrays;
import java.util.List;

/** The edges of promises 25 to 29: images, STATUS, counts, the digest. */
public final class KeptEdgesTest {
    private static final int BAD = Edges.BAD, NO = Edges.NO;

    public static void main(String[] args) {
        image();
        from();
        notKept();
        status();
        statusOfAll();
        count();
        digest();
        digestParts();
        Edges.end("edges of what there is");
    }

    private static void image() {
        Edges.edge("25: BAD: IMAGES 0, 1", () -> {
            Edges.range(Edges::some, "image", 0, 1, FanTalk.BAD, (x, v) -> x.image(v));
            Edges.range(FanTalk::new, "image", 0, 1, FanTalk.BAD, (x, v) -> x.image(v));
        });
        Edges.edge("25: An IMAGE is kept: 1: of nothing, of all; over another one", () -> {
            FanTalk x = new FanTalk();
            Edges.stands(x, "image(0)", o -> o.image(0), 1);
            Edges.stands(x, "image(1)", o -> o.image(1), 1);
            x.code();
            x.entry(0, 1, 12);
            Edges.stands(x, "image(1) again", o -> o.image(1), 1);
            Edges.due("from(0)", x.from(0), 1);
            Edges.due("count(0)", x.count(0), 0);
            Edges.due("from(1)", x.from(1), 1);
            Edges.due("count(0)", x.count(0), 1);
            Edges.due("told", x.told(0, 0, 0), 12);
        });
        Edges.edge("25: nothing else is changed by it", () -> {
            FanTalk x = Edges.full();
            x.image(0);
            x.image(1);
            FanTalk y = Edges.full();
            y.image(0);
            y.image(1);
            long digest = Edges.full().digest();
            Edges.due("digest()", x.digest(), digest);
            x.image(1);
            x.image(0);
            Edges.alike("image", x, y);
        });
    }

    private static void from() {
        Edges.edge("26: BAD: IMAGES 0, 1", () -> {
            Edges.range(Edges::some, "from", 0, 1, FanTalk.BAD, (x, v) -> x.from(v));
            Edges.refused(FanTalk::new, "from(2) of none", x -> x.from(2), FanTalk.BAD, BAD);
            Edges.refused(FanTalk::new, "from(-1) of none", x -> x.from(-1), FanTalk.BAD, BAD);
        });
        Edges.edge("26: NO: none was kept: neither, the other one alone", () -> {
            for (int i = 0; i < 2; i++) {
                int one = i;
                Edges.refused(FanTalk::new, "from(" + i + ")", x -> x.from(one), FanTalk.NO, NO);
                Edges.refused(() -> {
                    FanTalk x = Edges.full();
                    x.image(1 - one);
                    return x;
                }, "from(" + i + ")", x -> x.from(one), FanTalk.NO, NO);
            }
        });
        Edges.edge("26: It goes on from an IMAGE: 1: it may again and again", () -> {
            FanTalk x = Edges.full();
            x.image(0);
            long digest = x.digest();
            for (int i = 0; i < 5; i++) {
                x.year();
                x.undo();
                x.undo();
                x.say(Edges.row(1));
                x.forget();
                x.draughts(i);
                x.entry(0, 1, 1728 + i);
                Edges.due("another digest", x.digest() == digest ? 1 : 0, 0);
                Edges.due("from(0)", x.from(0), 1);
                Edges.due("digest()", x.digest(), digest);
            }
        });
        Edges.edge("IMAGES keep all: an empty one takes the place of a full one, a full one of an empty one", () -> {
            FanTalk x = new FanTalk();
            x.image(0);
            x.code();
            for (int i = 0; i < 8; i++) {
                x.entry(0, i, 12 + i);
                x.want(i);
                x.fact(12, i);
            }
            x.say(Edges.like(6, 3));
            x.draughts(63);
            for (int i = 0; i < 7; i++) {
                x.utter(0);
            }
            x.image(1);
            int[] all = {1, 8, 6, 4, 8, 6, 0, 63};
            for (int n = 0; n < 3; n++) {
                Edges.due("from(0)", x.from(0), 1);
                for (int what = 0; what < 8; what++) {
                    Edges.due("count(" + what + ")", x.count(what), 0);
                }
                Edges.due("uses(5)", x.uses(5), 0);
                Edges.due("seen(0)", x.seen(0), FanTalk.NONE);
                Edges.due("undo()", x.undo(), FanTalk.NO);
                Edges.due("from(1)", x.from(1), 1);
                for (int what = 0; what < 8; what++) {
                    Edges.due("count(" + what + ")", x.count(what), all[what]);
                }
                Edges.due("uses(5)", x.uses(5), 42);
                Edges.due("told", x.told(0, 7, 1), 7);
            }
        });
    }

    /** An image of nothing, and an image of all as it goes on. */
    private static FanTalk twoImages() {
        FanTalk x = new FanTalk();
        x.image(0);
        Edges.fill(x);
        x.image(1);
        return x;
    }

    /** As full as that, but with all else: other rows, other words, other uses. */
    private static void fillOtherwise(FanTalk x) {
        for (int code = 0; code < 3; code++) {
            x.code();
            for (int i = 0; i < 8; i++) {
                x.entry(code, 9 - i, Edges.row(11 - i));
            }
        }
        x.say(Edges.row(11, 11, 11, 11, 10, 9));
        for (int i = 0; i < 8; i++) {
            x.want(9 - i);
            x.fact(Edges.row(11 - i), 9 - i);
            x.utter(i % 3);
        }
        x.draughts(21);
    }

    private static void notKept() {
        Edges.edge("IMAGES keep all: what comes between, as full and with all else, leaves nothing", () -> {
            FanTalk x = twoImages();
            x.from(0);
            fillOtherwise(x);
            Edges.due("uses(9)", x.uses(9), 32);
            Edges.due("from(1)", x.from(1), 1);
            Edges.alike("from(1)", x, twoImages());
        });
        Edges.edge("IMAGES keep all: over another one, as full and with all else", () -> {
            FanTalk x = twoImages();
            x.from(0);
            fillOtherwise(x);
            x.image(1);
            x.from(0);
            x.from(1);
            FanTalk y = new FanTalk();
            y.image(0);
            fillOtherwise(y);
            y.image(1);
            x.clear();
            Edges.alike("from(1)", x, y);
        });
        Edges.edge("what may be undone they keep: all six, and each USES of them", () -> {
            FanTalk x = Edges.codesAndSaying("code;entry 0 1 0;", 0);
            for (int i = 0; i < 8; i++) {
                x.utter(0);
            }
            x.image(1);
            for (int n = 0; n < 2; n++) {
                x.code();
                Edges.due("count(5)", x.count(5), 0);
                Edges.due("from(1)", x.from(1), 1);
                for (int i = 0; i < 6; i++) {
                    Edges.due("uses(1)", x.uses(1), 8 - i);
                    Edges.due("undo()", x.undo(), 1);
                }
                Edges.due("uses(1)", x.uses(1), 2);
                Edges.due("undo()", x.undo(), FanTalk.NO);
            }
        });
        Edges.edge("all but them: an IMAGE keeps no IMAGES; from() leaves both", () -> {
            FanTalk x = new FanTalk();
            x.image(0);
            x.code();
            x.image(1);
            x.code();
            x.from(0);
            Edges.due("count(0)", x.count(0), 0);
            Edges.due("from(1)", x.from(1), 1);
            Edges.due("count(0)", x.count(0), 1);
            Edges.due("from(0)", x.from(0), 1);
            Edges.due("count(0)", x.count(0), 0);
        });
        Edges.edge("all but THE TEXT: it stays as it is", () -> {
            FanTalk x = Edges.type(new FanTalk(), "code;");
            x.image(0);
            x.type(';', 1);
            x.from(0);
            Edges.due("count(6)", x.count(6), 6);
            Edges.due("read()", x.read(), -15);
            x.clear();
            x.from(0);
            Edges.due("count(6)", x.count(6), 0);
            Edges.due("read()", x.read(), 0);
        });
        Edges.edge("all but STATUS: it goes on", () -> {
            FanTalk x = new FanTalk();
            x.undo();
            x.image(0);
            x.undo();
            x.seen(-1);
            x.from(0);
            Edges.status(x, 1, 2, 0);
        });
    }

    private static void status() {
        Edges.edge("27: STATUS: BAD (0), NO (1), FULL (2): none at first, each for itself", () -> {
            FanTalk x = new FanTalk();
            Edges.status(x, 0, 0, 0);
            x.seen(-1);
            Edges.status(x, 1, 0, 0);
            x.undo();
            Edges.status(x, 1, 1, 0);
            for (int i = 0; i < 4; i++) {
                x.code();
            }
            Edges.status(x, 1, 1, 1);
        });
        Edges.edge("27: -1: another what (counts as BAD)", () -> {
            for (int what : new int[] {-1, -2, 3, 4, Integer.MIN_VALUE, Integer.MAX_VALUE}) {
                Edges.refused(Edges::some, "status(" + what + ")", x -> x.status(what), -1, BAD);
                Edges.refused(FanTalk::new, "status(" + what + ")", x -> x.status(what), -1, BAD);
            }
            for (int what = 0; what < 3; what++) {
                int w = what;
                Edges.stands(Edges.some(), "status(" + w + ")", x -> x.status(w), 0);
            }
        });
        Edges.edge("where others are told they count as these: -10 as BAD, -20 as NO", () -> {
            FanTalk x = Edges.codes("code;");
            x.reads(5, 0, 0);
            Edges.status(x, 1, 0, 0);
            x.hide(0, 0, 6);
            Edges.status(x, 2, 0, 0);
            x.save(0, 10, 0);
            Edges.status(x, 3, 0, 0);
            x.save(0, 0, 0);
            Edges.status(x, 3, 1, 0);
        });
        Edges.edge("each answer told so below is such a one: NONE, -5, a FAULT are not", () -> {
            FanTalk x = Edges.codes("code;");
            x.want(1);
            Edges.due("seen", x.seen(0), FanTalk.NONE);
            Edges.due("reads", x.reads(0, 0, 0), -5);
            Edges.due("otherwise", x.otherwise(0, 0, 1, 0), FanTalk.NONE);
            Edges.due("hide", x.hide(0, 0, 5), FanTalk.NONE);
            Edges.type(x, "x");
            Edges.due("read", x.read(), -10);
            Edges.type(x, "code");
            Edges.due("read", x.read(), -14);
            Edges.status(x, 0, 0, 0);
        });
    }

    private static void statusOfAll() {
        Edges.edge("STATUS: how many calls were refused: each call that can be, once for each", () -> {
            FanTalk x = Edges.full();
            Edges.Call[] bad = {o -> o.entry(0, 0, 0), o -> o.told(0, 8, 0), o -> o.draughts(64), o -> o.type(0, 0),
                o -> o.say(0), o -> o.seen(-1), o -> o.reads(0, 3, 0), o -> o.otherwise(0, 0, 5, 0), o -> o.utter(3),
                o -> o.uses(10), o -> o.want(10), o -> o.hide(3, 0, 0), o -> o.save(0, 0, 2), o -> o.safe(3),
                o -> o.fact(0, 0), o -> o.heat(0, 0, 0, 61, 0), o -> o.image(2), o -> o.from(2), o -> o.status(3),
                o -> o.count(8)};
            for (int i = 0; i < bad.length; i++) {
                bad[i].on(x);
                Edges.status(x, i + 1, 0, 4);
            }
            Edges.Call[] no = {o -> o.entry(0, 0, 12), o -> o.say(148), o -> o.from(0), o -> o.from(1)};
            for (int i = 0; i < no.length; i++) {
                no[i].on(x);
                Edges.status(x, bad.length, i + 1, 4);
            }
            Edges.Call[] full = {FanTalk::code, o -> o.entry(0, 0, 23), o -> o.type(0, 1), o -> o.want(0),
                o -> o.fact(12, 0)};
            for (int i = 0; i < full.length; i++) {
                full[i].on(x);
                Edges.status(x, bad.length, no.length, i + 5);
            }
        });
    }

    private static void count() {
        Edges.edge("28: BAD: another what than 0 .. 7", () -> {
            Edges.range(Edges::some, "count", 0, 7, FanTalk.BAD, (x, v) -> x.count(v));
            Edges.range(FanTalk::new, "count", 0, 7, FanTalk.BAD, (x, v) -> x.count(v));
        });
        Edges.edge("28: How many: where all is full: 3, 24, 6, 4, 8, 6, 250, 63", () -> {
            FanTalk x = Edges.full();
            int[] due = {3, 24, 6, 4, 8, 6, 250, 63};
            for (int what = 0; what < 8; what++) {
                int w = what;
                Edges.stands(x, "count(" + w + ")", o -> o.count(w), due[w]);
            }
        });
        Edges.edge("28: each for itself, one more by each call that adds to it, none by one that is refused", () -> {
            Edges.Call[] adds = {FanTalk::code, x -> x.entry(0, 1, 12), x -> x.say(12), x -> x.want(1),
                x -> x.fact(12, 1), x -> x.utter(0), x -> x.type(32, 1), x -> x.draughts(1)};
            Edges.Call[] refused = {x -> x.entry(5, 1, 12), x -> x.entry(0, 1, 1), x -> x.say(1), x -> x.want(-1),
                x -> x.fact(1, 1), x -> x.utter(-1), x -> x.type(32, 0), x -> x.draughts(-1)};
            FanTalk x = new FanTalk();
            for (int i = 0; i < 8; i++) {
                adds[i].on(x);
                refused[i].on(x);
                for (int what = 0; what < 8; what++) {
                    Edges.due("count(" + what + ")", x.count(what), what <= i ? 1 : 0);
                }
            }
        });
    }

    private static long digestOf(List<Integer> all) {
        BigInteger h = BigInteger.valueOf(811);
        for (int v : all) {
            h = h.multiply(BigInteger.valueOf(31)).add(BigInteger.valueOf(v));
        }
        return h.longValue();
    }

    private static void digest() {
        Edges.edge("29: h = 811, then 31 h + v for each v: nothing but the counts and USES of a new object", () -> {
            Integer[] none = new Integer[18];
            Arrays.fill(none, 0);
            Edges.stands(new FanTalk(), "digest()", FanTalk::digest, digestOf(Arrays.asList(none)));
        });
        Edges.edge("29: it goes past what a long holds, and wraps around: where all is full", () -> {
            FanTalk x = Edges.full();
            List<Integer> all = new ArrayList<>(List.of(3, 24, 6, 4, 8, 6, 250, 63));
            for (int code = 0; code < 3; code++) {
                all.add(8);
                for (int i = 0; i < 8; i++) {
                    all.add(Edges.row(i + code));
                    all.add((i + code) % 10);
                }
            }
            all.addAll(List.of(0, 0, 0, 0, 48, 0, 0, 0, 0, 0));
            all.addAll(List.of(4, 4, 4, 4, 4, 4, 0, 1, 2, 3));
            for (int i = 0; i < 8; i++) {
                all.add(Edges.row(4, 11, 0, 4, i));
                all.add(4);
            }
            Edges.stands(x, "digest()", FanTalk::digest, digestOf(all));
        });
    }

    private static void digestParts() {
        Edges.edge("29: of CODES how many ENTRIES, of these ROW, WORD: an empty CODE is a 0", () -> {
            FanTalk x = Edges.codes("code;code;entry 1 9 11 10 9;code;");
            Edges.due("digest()", x.digest(), digestOf(List.of(3, 1, 0, 0, 0, 0, 33, 0, 0, 1, Edges.row(11, 10, 9), 9,
                    0, 0, 0, 0, 0, 0, 0, 0, 0, 0, 0)));
        });
        Edges.edge("29: what is gone is not in it: ENTRIES, a longer SAYING, WANT; nor are STATUS, IMAGES", () -> {
            FanTalk x = Edges.codesAndSaying("code;entry 0 1 0;entry 0 2 2;", 0, 0, 0);
            x.want(3);
            x.forget();
            x.want(4);
            x.want(5);
            x.fact(13, 6);
            x.year();
            x.say(Edges.row(7));
            x.image(0);
            x.status(9);
            Edges.due("digest()", x.digest(), digestOf(List.of(1, 0, 1, 2, 1, 1, 29, 0, 0, 0, 0, 0, 0, 0, 0, 0, 0, 0, 0,
                    7, 4, 5, 13, 6)));
        });
        Edges.edge("29: STATES of THE SAYING: as it was made, not as it is seen", () -> {
            FanTalk x = new FanTalk();
            x.say(Edges.row(1, 3));
            x.draughts(63);
            Edges.due("digest()", x.digest(), digestOf(List.of(0, 0, 2, 0, 0, 0, 0, 63, 0, 0, 0, 0, 0, 0, 0, 0, 0, 0,
                    1, 3)));
        });
        Edges.edge("29: THE TEXT's bytes are not in it, but how many", () -> {
            FanTalk x = Edges.type(new FanTalk(), "abc");
            FanTalk y = Edges.type(new FanTalk(), "xyz");
            Edges.due("digest()", x.digest(), y.digest());
            y.type(32, 1);
            Edges.due("another digest", x.digest() == y.digest() ? 1 : 0, 0);
        });
        Edges.edge("29: USES up to 999", () -> {
            FanTalk x = Edges.codesAndSaying("code;entry 0 9 0;", 0, 0, 0, 0, 0, 0);
            for (int i = 0; i < 200; i++) {
                x.utter(0);
            }
            Edges.due("digest()", x.digest(), digestOf(List.of(1, 1, 6, 0, 0, 6, 17, 0, 1, 12, 9, 0, 0, 0, 0, 0, 0, 0, 0,
                    0, 999, 0, 0, 0, 0, 0, 0)));
        });
    }
}

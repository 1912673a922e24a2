/** Runs of 512 calls, as many as an object is used for: the last call answers as the first ones do. */
public final class LongRunsTest {
    private static final int CALLS = 512;

    public static void main(String[] args) {
        refusedAlone();
        addingAlone();
        makingAnew();
        asking();
        uttering();
        keeping();
        Edges.end("long runs");
    }

    private static void refusedAlone() {
        Edges.edge("512 calls: 511 that are refused, and STATUS", () -> {
            Edges.Call[] bad = {o -> o.entry(0, 0, 0), o -> o.told(0, 0, 0), o -> o.draughts(64), o -> o.type(0, 0),
                o -> o.say(0), o -> o.seen(-1), o -> o.reads(0, 0, 0), o -> o.otherwise(0, 0, 0, 0), o -> o.utter(0),
                o -> o.uses(10), o -> o.want(10), o -> o.hide(0, 0, 0), o -> o.save(0, 0, 0), o -> o.safe(0),
                o -> o.fact(0, 0), o -> o.heat(0, 0, 0, 0, 0), o -> o.image(2), o -> o.from(2), o -> o.status(3),
                o -> o.count(8)};
            FanTalk x = new FanTalk();
            for (int i = 1; i < CALLS; i++) {
                bad[i % bad.length].on(x);
            }
            Edges.due("status(0)", x.status(0), 511);
        });
        Edges.edge("512 calls: 511 that are refused as NO, and STATUS", () -> {
            FanTalk x = new FanTalk();
            for (int i = 1; i < CALLS; i++) {
                Edges.due("NO", i % 3 == 0 ? x.undo() : i % 3 == 1 ? x.say(148) : x.from(i % 2), FanTalk.NO);
            }
            Edges.due("status(1)", x.status(1), 511);
        });
        Edges.edge("512 calls: status(3) each time, the last status(0)", () -> {
            FanTalk x = new FanTalk();
            for (int i = 1; i < CALLS; i++) {
                Edges.due("status(3)", x.status(3), -1);
            }
            Edges.due("status(0)", x.status(0), 511);
        });
    }

    private static void addingAlone() {
        Edges.edge("512 calls: code(): three, and FULL", () -> {
            FanTalk x = new FanTalk();
            for (int i = 0; i < CALLS - 1; i++) {
                Edges.due("code()", x.code(), i < 3 ? i : FanTalk.FULL);
            }
            Edges.due("status(2)", x.status(2), 508);
        });
        Edges.edge("512 calls: entry(): eight, and FULL, or NO", () -> {
            FanTalk x = new FanTalk();
            x.code();
            for (int i = 0; i < CALLS - 2; i++) {
                int due = i % 24 >= 12 ? FanTalk.BAD : i < 8 ? i : i % 24 < 8 ? FanTalk.NO : FanTalk.FULL;
                Edges.due("entry", x.entry(0, i % 10, 12 + i % 24), due);
            }
            Edges.due("count(1)", x.count(1), 8);
        });
        Edges.edge("512 calls: want(), fact(): four, eight, and FULL", () -> {
            FanTalk x = new FanTalk();
            for (int i = 0; i < CALLS / 2 - 1; i++) {
                Edges.due("want", x.want(i % 10), i < 4 ? i + 1 : FanTalk.FULL);
                Edges.due("fact", x.fact(12 + i % 12, i % 10), i < 8 ? i : FanTalk.FULL);
            }
            Edges.due("count(3)", x.count(3), 4);
            Edges.due("count(4)", x.count(4), 8);
        });
        Edges.edge("512 calls: type(): 250 bytes, and FULL; anew behind clear()", () -> {
            FanTalk x = new FanTalk();
            for (int i = 0; i < CALLS; i++) {
                int n = i % 37;
                if (n == 36) {
                    Edges.due("clear()", x.clear(), 250);
                } else {
                    Edges.due("type", x.type(-1L, n < 31 ? 8 : n == 34 ? 2 : 3), n < 31 ? 8 * n + 8 : n == 34 ? 250
                            : FanTalk.FULL);
                }
            }
        });
    }

    private static void makingAnew() {
        Edges.edge("512 calls: read(): the same CODES each time", () -> {
            FanTalk x = Edges.type(new FanTalk(), "code;entry 0 1 2 3;code;entry 1 4 5;draught 6;");
            x.read();
            long digest = x.digest();
            for (int i = 0; i < 500; i++) {
                Edges.due("read()", x.read(), 5);
            }
            Edges.due("digest()", x.digest(), digest);
        });
        Edges.edge("512 calls: read(): a FAULT each time, all stays", () -> {
            FanTalk x = Edges.type(new FanTalk(), "code;code;code;code;");
            long digest = x.digest();
            for (int i = 0; i < 505; i++) {
                Edges.due("read()", x.read(), -25);
            }
            Edges.due("digest()", x.digest(), digest);
            Edges.due("status(0)", x.status(0), 0);
        });
        Edges.edge("512 calls: draughts(): what they were, each time", () -> {
            FanTalk x = new FanTalk();
            for (int i = 0; i < CALLS; i++) {
                Edges.due("draughts", x.draughts(i * 7 % 64), i == 0 ? 0 : (i - 1) * 7 % 64);
            }
        });
        Edges.edge("512 calls: say(), seen(): nothing of a longer one is left", () -> {
            FanTalk x = new FanTalk();
            for (int i = 0; i < 170; i++) {
                int n = 1 + i * 5 % 6;
                int s = i % 12;
                Edges.due("say", x.say(Edges.like(n, s)), n);
                Edges.due("the last", x.seen(n - 1), s);
                Edges.due("behind it", x.seen(n), FanTalk.NONE);
            }
        });
        Edges.edge("512 calls: want(), forget()", () -> {
            FanTalk x = new FanTalk();
            for (int i = 0; i < CALLS; i++) {
                Edges.due("want, forget", i % 6 == 5 ? x.forget() : x.want(i % 10),
                        i % 6 == 5 ? 4 : i % 6 == 4 ? FanTalk.FULL : i % 6 + 1);
            }
        });
    }

    private static void asking() {
        Edges.edge("512 calls: what only asks answers the same each time, whatever is asked between", () -> {
            Edges.Call[] asks = {x -> x.reads(0, 0, -1), x -> x.hide(0, 1, 1), x -> x.reads(3, 1, 0),
                x -> x.save(0, 1, 0), x -> x.safe(0), x -> x.heat(4, 0, 1, 60, 5), x -> x.otherwise(0, 0, 1, 0),
                x -> x.save(0, 1, 1), x -> x.mayBe(), x -> x.told(1, 0, 0), x -> x.otherwise(2, 0, 2, 1),
                x -> x.seen(5), x -> x.safe(1), x -> x.hide(1, 0, 5), x -> x.heat(0, 1, 1, 60, 999999),
                x -> x.count(1), x -> x.uses(1), FanTalk::digest};
            FanTalk x = Edges.codes("code;entry 0 1 2;entry 0 2 0 0;entry 0 3 2 2 2;code;entry 1 4 1;entry 1 1 2;"
                    + "draught 34;");
            x.say(Edges.row(0, 0, 2, 4, 2, 0));
            x.want(1);
            x.want(3);
            x.fact(Edges.row(2, 9), 1);
            x.utter(0);
            long[] due = new long[asks.length];
            for (int i = 0; i < 450; i++) {
                int n = i * 7 % asks.length;
                long answer = asks[n].on(x);
                if (i < asks.length) {
                    due[n] = answer;
                } else {
                    Edges.due("the ask " + n, answer, due[n]);
                }
            }
            Edges.status(x, 0, 0, 0);
        });
        Edges.edge("512 calls: the dearest searches: HIDE without an answer, SAVE of six BEATS", () -> {
            FanTalk x = Edges.codes("code;entry 0 1 0;entry 0 1 1;entry 0 1 2;entry 0 1 3;entry 0 1 4;entry 0 1 5;"
                    + "entry 0 1 6;entry 0 1 7;code;");
            x.say(Edges.like(6, 0));
            x.want(9);
            for (int i = 0; i < 120; i++) {
                Edges.due("hide", x.hide(0, 1, 5), FanTalk.NONE);
                Edges.due("hide", x.hide(1, 0, 0), FanTalk.NONE);
                Edges.due("save", x.save(0, 1, 0), 6);
                Edges.due("save", x.save(0, 1, 1), Edges.like(6, 8));
            }
        });
    }

    private static void uttering() {
        Edges.edge("512 calls: utter(): USES at 999, six that may be undone", () -> {
            FanTalk x = Edges.codesAndSaying("code;entry 0 9 0;", 0, 0, 0);
            for (int i = 0; i < 490; i++) {
                Edges.due("utter", x.utter(0), 3);
            }
            Edges.due("uses(9)", x.uses(9), 999);
            Edges.due("count(5)", x.count(5), 6);
            for (int i = 0; i < 6; i++) {
                Edges.due("undo()", x.undo(), 1);
            }
            Edges.due("undo()", x.undo(), FanTalk.NO);
            Edges.due("uses(9)", x.uses(9), 999);
        });
        Edges.edge("512 calls: year(): six that may be undone, the first one's ENTRIES do not come back", () -> {
            FanTalk x = Edges.codes("code;entry 0 1 0;");
            for (int i = 0; i < 490; i++) {
                Edges.due("year()", x.year(), i == 0 ? 1 : 0);
            }
            for (int i = 0; i < 6; i++) {
                Edges.due("undo()", x.undo(), 1);
            }
            Edges.due("undo()", x.undo(), FanTalk.NO);
            Edges.due("count(1)", x.count(1), 0);
        });
        Edges.edge("512 calls: utter(), undo() by turns: as it was, each time", () -> {
            FanTalk x = Edges.codesAndSaying("code;entry 0 9 0;", 0, 0, 0);
            x.utter(0);
            for (int i = 0; i < 160; i++) {
                Edges.due("utter", x.utter(0), 3);
                Edges.due("undo()", x.undo(), 1);
                Edges.due("uses(9)", x.uses(9), 3);
            }
            Edges.due("count(5)", x.count(5), 1);
        });
        Edges.edge("512 calls: a YEAR, what was used in it stays, and so on", () -> {
            FanTalk x = Edges.codesAndSaying("code;entry 0 1 0;entry 0 2 2;entry 0 3 4;", 0, 2);
            for (int i = 0; i < 150; i++) {
                x.utter(0);
                Edges.due("year()", x.year(), i == 0 ? 1 : 0);
                Edges.due("count(1)", x.count(1), 2);
            }
        });
    }

    private static void keeping() {
        Edges.edge("512 calls: image(), from() by turns", () -> {
            FanTalk x = Edges.some();
            long digest = x.digest();
            x.image(0);
            for (int i = 0; i < 90; i++) {
                Edges.due("year, utter", i % 2 == 0 ? x.year() : x.utter(0), i % 2 == 0 ? 0 : 4);
                Edges.due("image(1)", x.image(1), 1);
                Edges.due("from(0)", x.from(0), 1);
                Edges.due("digest()", x.digest(), digest);
                Edges.due("from(1)", x.from(1), 1);
            }
            x.from(0);
            for (int i = 0; i < 4; i++) {
                Edges.due("undo()", x.undo(), 1);
            }
            Edges.due("undo()", x.undo(), FanTalk.NO);
        });
    }
}

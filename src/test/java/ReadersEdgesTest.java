/** The edges of what readers see and take: the kinds, DRAUGHTS, the beats that a chaperone does not see. */
public final class ReadersEdgesTest {
    public static void main(String[] args) {
        lengths();
        goingOn();
        chaperone();
        mirror();
        aunt();
        draughts();
        heatOfAll();
        Edges.end("edges of readers");
    }

    private static void lengths() {
        Edges.edge("FRIEND: the longest ENTRY; HASTY: the shortest: 1, 2, 3 STATES, whichever came first", () -> {
            String[] orders = {"entry 0 1 0;entry 0 2 0 0;entry 0 3 0 0 0;",
                "entry 0 3 0 0 0;entry 0 2 0 0;entry 0 1 0;", "entry 0 2 0 0;entry 0 3 0 0 0;entry 0 1 0;"};
            for (String order : orders) {
                FanTalk x = Edges.codesAndSaying("code;" + order, 0, 0, 0, 0, 0, 0);
                Edges.reads(x, 0, 0, "33");
                Edges.reads(x, 1, 0, "111111");
            }
        });
        Edges.edge("of all ENTRIES whose ROW they see from there on: one that goes past the end is not", () -> {
            for (int beats = 1; beats <= 6; beats++) {
                FanTalk x = Edges.codes("code;entry 0 1 0;entry 0 3 0 0 0;code;entry 1 3 0 0 0;");
                x.say(Edges.like(beats, 0));
                Edges.reads(x, 0, 0, "3".repeat(beats / 3) + "1".repeat(beats % 3));
                Edges.reads(x, 0, 1, "3".repeat(beats / 3));
                Edges.reads(x, 1, 1, "3".repeat(beats / 3));
            }
        });
        Edges.edge("READ: no word, one, and six of six BEATS", () -> {
            FanTalk x = Edges.codesAndSaying("code;entry 0 9 0;code;code;entry 2 0 0 0 0;", 0, 0, 0, 0, 0, 0);
            Edges.reads(x, 0, 0, "999999");
            Edges.reads(x, 0, 1, "");
            Edges.reads(x, 0, 2, "00");
            x.say(Edges.row(0));
            Edges.reads(x, 0, 0, "9");
            Edges.reads(x, 0, 2, "");
        });
        Edges.edge("by a CODE of eight ENTRIES: the first and the last are seen", () -> {
            FanTalk x = Edges.full();
            x.draughts(0);
            x.say(Edges.row(0, 1));
            Edges.reads(x, 0, 0, "01");
            x.say(Edges.row(9, 8));
            Edges.reads(x, 0, 2, "98");
            x.say(Edges.row(1, 0));
            Edges.reads(x, 0, 2, "");
        });
    }

    private static void goingOn() {
        Edges.edge("from BEAT 0 on; they go on behind it: what was taken is not seen again", () -> {
            FanTalk x = Edges.codesAndSaying("code;entry 0 1 0 1;entry 0 2 1 0;", 0, 1, 0, 1, 0, 1);
            Edges.reads(x, 0, 0, "111");
            x.say(Edges.row(1, 0, 1, 0));
            Edges.reads(x, 0, 0, "22");
        });
        Edges.edge("none: they go on by one BEAT", () -> {
            FanTalk x = Edges.codesAndSaying("code;entry 0 1 0 1;", 0, 0, 1, 1, 0, 1);
            Edges.reads(x, 0, 0, "11");
            x.say(Edges.row(1, 1, 1, 1, 0, 1));
            Edges.reads(x, 0, 0, "1");
            x.say(Edges.row(1, 1, 1, 1, 1, 0));
            Edges.reads(x, 0, 0, "");
        });
        Edges.edge("one by their KIND where each begins: an earlier short one is taken, not a later long one", () -> {
            FanTalk x = Edges.codesAndSaying("code;entry 0 1 0;entry 0 3 1 1 1;entry 0 2 0 1;", 0, 1, 1, 1);
            Edges.reads(x, 0, 0, "2");
            Edges.reads(x, 1, 0, "13");
        });
    }

    private static void chaperone() {
        Edges.edge("CHAPERONE: sees nothing (no STATE) in BEATS 2, 5, 8, ..: of six", () -> {
            FanTalk x = Edges.codesAndSaying("code;entry 0 0 0;entry 0 1 1;entry 0 2 2;entry 0 3 3;entry 0 4 4;"
                    + "entry 0 5 5;", 0, 1, 2, 3, 4, 5);
            Edges.reads(x, 2, 0, "0134");
            Edges.reads(x, 4, 0, "0134");
            Edges.reads(x, 0, 0, "012345");
            Edges.reads(x, 1, 0, "012345");
        });
        Edges.edge("no STATE: no ENTRY goes over BEAT 2 or 5, begins or ends there", () -> {
            FanTalk x = Edges.codesAndSaying("code;entry 0 2 0 0;code;entry 1 3 0 0 0;", 0, 0, 0, 0, 0, 0);
            Edges.reads(x, 2, 0, "22");
            Edges.reads(x, 2, 1, "");
            x.say(Edges.row(1, 0, 0, 1, 0, 0));
            Edges.reads(x, 0, 0, "22");
            Edges.reads(x, 2, 0, "");
            x.say(Edges.row(1, 1, 0, 0, 1, 1));
            Edges.reads(x, 0, 0, "2");
            Edges.reads(x, 2, 0, "");
        });
        Edges.edge("CHAPERONE (under FRIEND), AUNT (under CHAPERONE): the longest ENTRY", () -> {
            FanTalk x = Edges.codesAndSaying("code;entry 0 1 0;entry 0 2 0 0;", 0, 0, 0, 0, 0);
            Edges.reads(x, 2, 0, "22");
            Edges.reads(x, 4, 0, "22");
        });
    }

    private static void mirror() {
        Edges.edge("MIRROR: each SIDE is the other one to her: all STATES", () -> {
            for (int s = 0; s < 12; s++) {
                FanTalk x = Edges.codesAndSaying("code;entry 0 7 " + s + ";", s);
                Edges.reads(x, 0, 0, "7");
                Edges.reads(x, 3, 0, "");
                x.say(Edges.row(s ^ 1));
                Edges.reads(x, 0, 0, "");
                Edges.reads(x, 3, 0, "7");
            }
        });
        Edges.edge("MIRROR (under HASTY): the shortest, and sees BEATS 2 and 5", () -> {
            FanTalk x = Edges.codesAndSaying("code;entry 0 1 0;entry 0 2 0 0;", 1, 1, 1, 1, 1, 1);
            Edges.reads(x, 3, 0, "111111");
        });
    }

    private static void aunt() {
        Edges.edge("AUNT: OPEN 5 is 4 to her, its SIDE is as it is; OPEN 0 to 4 are themselves", () -> {
            for (int s = 0; s < 12; s++) {
                int seen = s < 10 ? s : s - 2;
                FanTalk x = Edges.codesAndSaying("code;entry 0 7 " + seen + ";code;entry 1 8 " + (seen ^ 1) + ";", s);
                Edges.reads(x, 4, 0, "7");
                Edges.reads(x, 4, 1, "");
            }
        });
        Edges.edge("OPEN 5 is 4 to her: an ENTRY of OPEN 5 she never reads", () -> {
            FanTalk x = Edges.codes("code;entry 0 1 10;entry 0 2 11;entry 0 3 10 8;");
            for (int s = 8; s < 12; s++) {
                x.say(Edges.row(s, 8));
                Edges.reads(x, 4, 0, "");
            }
            x.say(Edges.row(10, 8));
            Edges.reads(x, 2, 0, "3");
        });
        Edges.edge("AUNT (under CHAPERONE): sees no STATE in BEATS 2, 5 where OPEN is 5", () -> {
            FanTalk x = Edges.codesAndSaying("code;entry 0 1 8;", 10, 10, 10, 10, 10, 10);
            Edges.reads(x, 4, 0, "1111");
        });
    }

    private static void draughts() {
        Edges.edge("THE SAYING, with DRAUGHTS: each KIND reads what they made, each BEAT", () -> {
            FanTalk x = Edges.codesAndSaying("code;entry 0 1 4;code;entry 1 2 5;", 2, 2, 2, 2, 2, 2);
            for (int beat = 0; beat < 6; beat++) {
                x.draughts(1 << beat);
                boolean blind = beat == 2 || beat == 5;
                int[] words = {1, 1, blind ? 0 : 1, 0, blind ? 0 : 1};
                for (int kind = 0; kind < 5; kind++) {
                    Edges.due("reads by " + kind, x.reads(kind, 0, -1), words[kind]);
                }
                Edges.due("reads by a mirror", x.reads(3, 1, -1), 1);
            }
        });
        Edges.edge("5 at most: OPEN 5 in a draught is OPEN 5, and 4 to an aunt", () -> {
            FanTalk x = Edges.codesAndSaying("code;entry 0 1 10;entry 0 2 8;", 10, 8, 9, 10, 8);
            x.draughts(31);
            Edges.reads(x, 0, 0, "1111");
            Edges.reads(x, 4, 0, "2222");
        });
    }

    /** By a code for 8 of the states and one for the others, each beat that is seen is read. */
    private static FanTalk allStates() {
        return Edges.codes("code;entry 0 1 0;entry 0 1 1;entry 0 1 2;entry 0 1 3;entry 0 1 4;entry 0 1 5;entry 0 1 6;"
                + "entry 0 1 7;code;entry 1 1 8;entry 1 1 9;entry 1 1 10;entry 1 1 11;");
    }

    private static void heatOfAll() {
        Edges.edge("n (0 .. 60) BEATS: all by FRIEND, HASTY, MIRROR, all but 2, 5, 8, .. 59 by the others", () -> {
            for (int kind = 0; kind < 5; kind++) {
                FanTalk x = allStates();
                for (int n = 0; n <= 60; n++) {
                    long read = x.heat(kind, 0, 1, n, 20250) + x.heat(kind, 1, 1, n, 20250);
                    Edges.due("heat of " + n + " by " + kind, read, kind == 2 || kind == 4 ? n - n / 3 : n);
                }
            }
        });
    }
}

import java.util.ArrayList;
import java.util.List;
import java.util.function.Supplier;

/** What the tests of the edges share. Each of their tests bears the sentence of the document that it looks at. */
final class Edges {
    static final int BAD = 0, NO = 1, FULL = 2;

    interface Call {
        long on(FanTalk x);
    }

    /** A call of which one argument is tried. */
    interface Trial {
        long on(FanTalk x, int v);
    }

    private static int tests = 0;
    private static int answers = 0;
    private static int wrong = 0;
    private static String now = "";

    private Edges() {
    }

    /** One test: the sentence, and what it asks for. */
    static void edge(String sentence, Runnable body) {
        tests++;
        now = sentence;
        body.run();
    }

    static void due(String call, long got, long want) {
        answers++;
        if (got != want) {
            wrong++;
            System.out.println(now + " | " + call + " answered " + got + ", due is " + want);
        }
    }

    static void end(String name) {
        System.out.println(name + ": " + tests + " tests, " + answers + " answers looked at, " + wrong + " wrong");
        if (wrong != 0) {
            System.exit(1);
        }
    }

    /** The number of a row. */
    static int row(int... states) {
        int row = 1;
        for (int s : states) {
            row = row * 12 + s;
        }
        return row;
    }

    /** The number of a row of like states. */
    static int like(int beats, int state) {
        int[] states = new int[beats];
        java.util.Arrays.fill(states, state);
        return row(states);
    }

    private static int power(int n) {
        return like(n, 0);
    }

    /** Numbers that tell no row of 1 to so many states, each beside one that does or far off. */
    static int[] noRows(int most) {
        List<Integer> all = new ArrayList<>(List.of(Integer.MIN_VALUE, Integer.MIN_VALUE + 12, -12, -1, 0, 1, 2, 11,
                Integer.MAX_VALUE));
        for (int n = 1; n <= 8; n++) {
            all.add(power(n) - 1);
            all.add(2 * power(n));
            all.add(-power(n));
            if (n > most) {
                all.add(power(n));
                all.add(2 * power(n) - 1);
            }
        }
        // What 12 to the 9th and more comes to when it wraps around.
        all.add((int) 5159780352L);
        all.add((int) 61917364224L);
        return all.stream().mapToInt(r -> r).toArray();
    }

    /** The least and the greatest row of each number of states up to so many. */
    static int[] endRows(int most) {
        int[] all = new int[2 * most];
        for (int n = 1; n <= most; n++) {
            all[2 * n - 2] = power(n);
            all[2 * n - 1] = 2 * power(n) - 1;
        }
        return all;
    }

    /** THE TEXT is this one. */
    static FanTalk type(FanTalk x, String told) {
        x.clear();
        for (int at = 0; at < told.length(); at += 8) {
            int n = Math.min(8, told.length() - at);
            long v = 0;
            for (int i = 0; i < n; i++) {
                v = v << 8 | told.charAt(at + i);
            }
            due("type of '" + told + "'", x.type(v, n), at + n);
        }
        return x;
    }

    /** A new object whose codes are read of a text. */
    static FanTalk codes(String told) {
        FanTalk x = type(new FanTalk(), told);
        due("read of '" + told + "' has a fault", x.read() < 0 ? 1 : 0, 0);
        return x;
    }

    static FanTalk codesAndSaying(String told, int... states) {
        FanTalk x = codes(told);
        due("say", x.say(row(states)), states.length);
        return x;
    }

    /** What is read of the saying: the words' figures, one behind the other. */
    static void reads(FanTalk x, int kind, int code, String words) {
        String call = "reads(" + kind + ", " + code + ", ";
        due(call + "-1)", x.reads(kind, code, -1), words.length());
        for (int i = 0; i < words.length(); i++) {
            due(call + i + ")", x.reads(kind, code, i), words.charAt(i) - '0');
        }
        due(call + words.length() + ")", x.reads(kind, code, words.length()), -5);
    }

    static void status(FanTalk x, int bad, int no, int full) {
        due("status(0)", x.status(0), bad);
        due("status(1)", x.status(1), no);
        due("status(2)", x.status(2), full);
    }

    private static int[] allStatus(FanTalk x) {
        return new int[] {x.status(BAD), x.status(NO), x.status(FULL)};
    }

    /** The call is not refused, whatever it answers. */
    static long stands(FanTalk x, String name, Call call) {
        int[] before = allStatus(x);
        long answer = call.on(x);
        int[] behind = allStatus(x);
        for (int as = 0; as < 3; as++) {
            due(name + ", status(" + as + ") behind it", behind[as], before[as]);
        }
        return answer;
    }

    /** The call answers so, and is not refused. */
    static void stands(FanTalk x, String name, Call call, long answer) {
        due(name, stands(x, name, call), answer);
    }

    /**
     * The call is refused, and counted as that: but for this, its object is like one on which it was not made,
     * in all that it tells and in what its text, what may be undone and its images tell later on.
     */
    static void refused(Supplier<FanTalk> make, String name, Call call, long answer, int as) {
        FanTalk x = make.get();
        int[] before = allStatus(x);
        due(name, call.on(x), answer);
        int[] behind = allStatus(x);
        for (int i = 0; i < 3; i++) {
            due(name + ", status(" + i + ") behind it", behind[i], before[i] + (i == as ? 1 : 0));
        }
        alike(name, x, make.get());
    }

    /** Both are alike in all but STATUS; neither is asked anything behind this. */
    static void alike(String name, FanTalk x, FanTalk other) {
        List<String> one = new ArrayList<>();
        List<String> two = new ArrayList<>();
        look(x, one);
        look(other, two);
        answers++;
        for (int i = 0; i < one.size(); i++) {
            if (!one.get(i).equals(two.get(i))) {
                wrong++;
                System.out.println(now + " | behind " + name + " it is " + one.get(i) + ", due is " + two.get(i));
                return;
            }
        }
    }

    /** All that an object tells: some 250 calls, and it is not as before. */
    private static void look(FanTalk x, List<String> seen) {
        for (int what = 0; what < 8; what++) {
            seen.add("count(" + what + ") " + x.count(what));
        }
        for (int i = 0; i < 24; i++) {
            seen.add("told(" + i / 8 + ", " + i % 8 + ", 0) " + x.told(i / 8, i % 8, 0));
            seen.add("told(" + i / 8 + ", " + i % 8 + ", 1) " + x.told(i / 8, i % 8, 1));
        }
        for (int i = 0; i < 7; i++) {
            seen.add("seen(" + i + ") " + x.seen(i));
        }
        for (int i = 0; i < 10; i++) {
            seen.add("uses(" + i + ") " + x.uses(i));
        }
        for (int i = 0; i < 105; i++) {
            int kind = i / 21;
            int code = i / 7 % 3;
            int place = i % 7 - 1;
            seen.add("reads(" + kind + ", " + code + ", " + place + ") " + x.reads(kind, code, place));
        }
        for (int code = 0; code < 3; code++) {
            seen.add("safe(" + code + ") " + x.safe(code));
            seen.add("hide(" + code + ", 0, 2) " + x.hide(code, 0, 2));
        }
        seen.add("mayBe() " + x.mayBe());
        seen.add("digest() " + x.digest());
        lookBehind(x, seen);
    }

    private static void lookBehind(FanTalk x, List<String> seen) {
        for (int i = 0; i < 7; i++) {
            seen.add("undo() " + x.undo() + ", digest() " + x.digest());
        }
        for (int i = 0; i < 2; i++) {
            seen.add("from(" + i + ") " + x.from(i) + ", digest() " + x.digest());
            seen.add("undo() " + x.undo() + ", digest() " + x.digest());
        }
        seen.add("read() " + x.read() + ", digest() " + x.digest());
        seen.add("clear() " + x.clear() + ", digest() " + x.digest());
    }

    /** One argument: as told from least to most, BAD at both ends beside these, and far off. */
    static void range(Supplier<FanTalk> make, String call, int least, int most, long answer, Trial trial) {
        for (int v : new int[] {least - 1, Integer.MIN_VALUE, most + 1, Integer.MAX_VALUE}) {
            refused(make, call + " with " + v, x -> trial.on(x, v), answer, BAD);
        }
        for (int v : new int[] {least, most}) {
            stands(make.get(), call + " with " + v, x -> trial.on(x, v));
        }
    }

    /** A row: as told from 1 state to so many, BAD all numbers beside these, and far off. */
    static void rows(Supplier<FanTalk> make, String call, int most, Trial trial) {
        for (int v : noRows(most)) {
            refused(make, call + " with the row " + v, x -> trial.on(x, v), FanTalk.BAD, BAD);
        }
        for (int v : endRows(most)) {
            stands(make.get(), call + " with the row " + v, x -> trial.on(x, v));
        }
    }

    /** An object in which there is some of all: two codes, a saying, draughts, what may be undone, images, a text. */
    static FanTalk some() {
        FanTalk x = codes("code;entry 0 1 2;entry 0 2 0 0;entry 0 3 2 2 2;code;entry 1 4 1;entry 1 1 2;draught 34;");
        x.say(row(0, 0, 2, 4, 2, 0));
        x.want(1);
        x.fact(row(2, 9), 1);
        x.image(0);
        x.utter(0);
        x.utter(1);
        x.year();
        x.image(1);
        x.want(2);
        x.fact(row(0, 0), 2);
        x.utter(0);
        type(x, "code;entry 0 7 7;draught 7;");
        return x;
    }

    /** An object in which all is full: codes, entries, wants, facts, what may be undone, the text, draughts. */
    static FanTalk full() {
        return fill(new FanTalk());
    }

    static FanTalk fill(FanTalk x) {
        for (int code = 0; code < 3; code++) {
            x.code();
            for (int i = 0; i < 8; i++) {
                x.entry(code, (i + code) % 10, row(i + code));
            }
        }
        x.say(like(6, 4));
        for (int i = 0; i < 8; i++) {
            x.want(i);
            x.fact(row(4, 11, 0, 4, i), 4);
            x.utter(i % 3);
        }
        for (int i = 0; i < 31; i++) {
            x.type(0x2020202020202020L, 8);
        }
        x.type(0x2020, 2);
        x.draughts(63);
        return x;
    }
}

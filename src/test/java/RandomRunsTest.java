import java.util.ArrayDeque;
import java.util.Deque;
import java.util.Random;

/**
 * Runs of 512 calls, drawn by seeds, on the class and on the Model at once: every answer is alike,
 * and so is the digest behind every fourth call or so.
 *
 * java RandomRunsTest [RUNS [FIRST SEED]]
 */
public final class RandomRunsTest {
    private static final int CALLS = 512;

    private final Random random;
    private final FanTalk x = new FanTalk();
    private final Model m = new Model();
    private final Deque<String> last = new ArrayDeque<>();
    /** Few states and few words make entries meet sayings; a run draws how few. */
    private final int states;
    private final int words;
    private boolean alike = true;
    private int made = 0;

    private RandomRunsTest(long seed) {
        random = new Random(seed);
        states = new int[] {2, 4, 6, 12}[random.nextInt(4)];
        words = new int[] {2, 4, 10}[random.nextInt(3)];
    }

    public static void main(String[] args) {
        int runs = args.length > 0 ? Integer.parseInt(args[0]) : 1000;
        long first = args.length > 1 ? Long.parseLong(args[1]) : 1;
        int wrong = java.util.stream.IntStream.range(0, runs).parallel()
                .map(i -> new RandomRunsTest(first + i).run(first + i) ? 0 : 1).sum();
        System.out.println("random runs: " + runs + " made, " + wrong + " wrong");
        if (wrong != 0) {
            System.exit(1);
        }
    }

    private boolean run(long seed) {
        while (mayGoOn()) {
            call();
            if (mayGoOn() && random.nextInt(4) == 0) {
                due("digest()", x.digest(), m.digest());
            }
        }
        if (!alike) {
            System.out.println("seed " + seed + ": " + last);
        }
        return alike;
    }

    /** What an object answers behind its 512th call is free. */
    private boolean mayGoOn() {
        return alike && made < CALLS;
    }

    private void due(String call, long got, long want) {
        made++;
        last.add(call + " = " + want);
        if (last.size() > 40) {
            last.remove();
        }
        if (got != want) {
            last.add("but it answered " + got);
            alike = false;
        }
    }

    private int pick(int bound) {
        return random.nextInt(bound);
    }

    /** Mostly as told, at times just beside it, at times far off. */
    private int any(int bound) {
        int luck = pick(60);
        if (luck == 0) {
            return -1 - pick(2);
        }
        if (luck == 1) {
            return bound + pick(2);
        }
        if (luck == 2) {
            return random.nextInt();
        }
        return pick(bound);
    }

    private int word() {
        return pick(30) == 0 ? any(10) : pick(words);
    }

    private int anyCode() {
        return pick(30) == 0 ? any(3) : pick(Math.max(1, m.count(0)));
    }

    /** A row of up to so many states, mostly lawful. */
    private int row(int most, boolean lawful) {
        if (pick(25) == 0) {
            return any(5971968 + 10);
        }
        int n = 1 + pick(most + (pick(20) == 0 ? 1 : 0));
        int row = 1;
        int before = -1;
        for (int i = 0; i < n; i++) {
            int s = pick(states);
            if (lawful && before >= 0) {
                int low = Math.max(0, before / 2 - 1);
                int high = Math.min(5, before / 2 + 1);
                s = 2 * (low + pick(high - low + 1)) + pick(2);
            }
            row = row * 12 + s;
            before = s;
        }
        return row;
    }

    private void call() {
        int what = pick(100);
        if (what < 30) {
            makeCodes(pick(8));
        } else if (what < 70) {
            talk(pick(12));
        } else if (what < 90) {
            ask(pick(12));
        } else {
            keep(pick(10));
        }
    }

    private void makeCodes(int what) {
        switch (what) {
            case 0 -> {
                if (pick(3) == 0) {
                    due("code()", x.code(), m.code());
                }
            }
            case 1, 2, 3 -> {
                int c = anyCode();
                int w = word();
                int r = row(3, pick(4) > 0);
                due("entry(" + c + ", " + w + ", " + r + ")", x.entry(c, w, r), m.entry(c, w, r));
            }
            case 4 -> {
                int c = anyCode();
                int e = any(8);
                int t = any(2);
                due("told(" + c + ", " + e + ", " + t + ")", x.told(c, e, t), m.told(c, e, t));
            }
            case 5 -> {
                int s = any(64);
                due("draughts(" + s + ")", x.draughts(s), m.draughts(s));
            }
            default -> {
                if (pick(4) == 0) {
                    text();
                }
            }
        }
    }

    private void text() {
        if (pick(6) > 0) {
            due("clear()", x.clear(), m.clear());
        }
        StringBuilder b = new StringBuilder();
        int items = pick(16);
        for (int i = 0; i < items; i++) {
            b.append(item(i));
        }
        for (int i = pick(3); i > 0 && b.length() > 0; i--) {
            spoil(b);
        }
        typeAll(b);
        if (mayGoOn()) {
            due("read() of '" + b + "'", x.read(), m.read());
        }
    }

    private String item(int i) {
        String gap = " ".repeat(pick(8) == 0 ? pick(3) : 0);
        if (i == 0 || pick(8) == 0) {
            return gap + "code" + gap + ";";
        }
        if (pick(8) == 0) {
            return gap + "draught" + gap + any(64) + gap + ";";
        }
        StringBuilder b = new StringBuilder(gap).append("entry").append(pick(3) == 0 ? "" : " ");
        b.append(pick(4) == 0 ? pick(3) : 0).append(' ').append(gap).append(word());
        for (int n = 1 + pick(3 + (pick(20) == 0 ? 1 : 0)); n > 0; n--) {
            b.append(' ').append(gap).append(pick(12) == 0 ? "0" : "").append(pick(20) == 0 ? any(12) : pick(states));
        }
        return b.append(gap).append(';').toString();
    }

    private void spoil(StringBuilder b) {
        int at = pick(b.length());
        switch (pick(4)) {
            case 0 -> b.deleteCharAt(at);
            case 1 -> b.insert(at, b.charAt(pick(b.length())));
            case 2 -> b.insert(at, (char) pick(256));
            default -> b.setLength(at);
        }
    }

    private void typeAll(StringBuilder b) {
        for (int at = 0; at < b.length() && mayGoOn();) {
            int n = Math.min(b.length() - at, 1 + pick(8));
            long v = pick(2) == 0 ? 0 : random.nextLong();
            for (int i = 0; i < n; i++) {
                v = v << 8 | b.charAt(at + i);
            }
            due("type(" + v + ", " + n + ")", x.type(v, n), m.type(v, n));
            at += n;
        }
        if (mayGoOn() && pick(10) == 0) {
            int n = any(9);
            due("type(32, " + n + ")", x.type(32, n), m.type(32, n));
        }
    }

    private void talk(int what) {
        switch (what) {
            case 0, 1, 2 -> {
                int r = row(6, pick(6) > 0);
                due("say(" + r + ")", x.say(r), m.say(r));
            }
            case 3 -> {
                int b = any(7);
                due("seen(" + b + ")", x.seen(b), m.seen(b));
            }
            case 4, 5, 6 -> {
                int k = any(5);
                int c = anyCode();
                int i = any(7) - 1;
                due("reads(" + k + ", " + c + ", " + i + ")", x.reads(k, c, i), m.reads(k, c, i));
            }
            case 7, 8 -> {
                int k = any(5);
                int c = anyCode();
                int l = any(5);
                int d = anyCode();
                due("otherwise(" + k + ", " + c + ", " + l + ", " + d + ")", x.otherwise(k, c, l, d),
                        m.otherwise(k, c, l, d));
            }
            case 9, 10 -> {
                int c = anyCode();
                due("utter(" + c + ")", x.utter(c), m.utter(c));
            }
            default -> {
                int w = word();
                due("uses(" + w + ")", x.uses(w), m.uses(w));
            }
        }
    }

    private void ask(int what) {
        int c = anyCode();
        switch (what) {
            case 0, 1 -> {
                int w = word();
                due("want(" + w + ")", x.want(w), m.want(w));
            }
            case 2 -> due("forget()", x.forget(), m.forget());
            case 3, 4 -> {
                int d = anyCode();
                int k = any(6);
                due("hide(" + c + ", " + d + ", " + k + ")", x.hide(c, d, k), m.hide(c, d, k));
            }
            case 5 -> {
                int w = word();
                int t = any(2);
                due("save(" + c + ", " + w + ", " + t + ")", x.save(c, w, t), m.save(c, w, t));
            }
            case 6, 7 -> due("safe(" + c + ")", x.safe(c), m.safe(c));
            case 8 -> {
                if (pick(3) == 0) {
                    int r = row(5, pick(2) == 0);
                    int w = word();
                    due("fact(" + r + ", " + w + ")", x.fact(r, w), m.fact(r, w));
                }
            }
            case 9 -> due("mayBe()", x.mayBe(), m.mayBe());
            default -> {
                int k = any(5);
                int w = word();
                int n = any(61);
                int seed = any(1000000);
                due("heat(" + k + ", " + c + ", " + w + ", " + n + ", " + seed + ")", x.heat(k, c, w, n, seed),
                        m.heat(k, c, w, n, seed));
            }
        }
    }

    private void keep(int what) {
        switch (what) {
            case 0 -> {
                if (pick(3) == 0) {
                    due("year()", x.year(), m.year());
                }
            }
            case 1, 2, 3 -> due("undo()", x.undo(), m.undo());
            case 4 -> {
                int i = any(2);
                due("image(" + i + ")", x.image(i), m.image(i));
            }
            case 5 -> {
                int i = any(2);
                due("from(" + i + ")", x.from(i), m.from(i));
            }
            case 6, 7 -> {
                int w = any(3);
                due("status(" + w + ")", x.status(w), m.status(w));
            }
            default -> {
                int w = any(8);
                due("count(" + w + ")", x.count(w), m.count(w));
            }
        }
    }
}

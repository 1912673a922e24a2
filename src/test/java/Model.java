import java.util.ArrayList;
import java.util.Arrays;
import java.util.List;

/**
 * FanTalk once more, from the document alone and by other ways: every row is tried, nothing is used again.
 * The random runs hold the class against it.
 */
final class Model {
    record Meaning(String row, int word) { }

    static final class Book {
        List<List<Meaning>> codes = new ArrayList<>();
        int[] uses = new int[10];

        Book copy() {
            Book b = new Book();
            for (List<Meaning> code : codes) {
                b.codes.add(new ArrayList<>(code));
            }
            b.uses = uses.clone();
            return b;
        }
    }

    static final class Kept {
        Book book = new Book();
        List<Book> past = new ArrayList<>();
        int draughts;
        String saying = "";
        List<Integer> want = new ArrayList<>();
        List<Meaning> facts = new ArrayList<>();

        Kept copy() {
            Kept k = new Kept();
            k.book = book.copy();
            for (Book b : past) {
                k.past.add(b.copy());
            }
            k.draughts = draughts;
            k.saying = saying;
            k.want = new ArrayList<>(want);
            k.facts = new ArrayList<>(facts);
            return k;
        }
    }

    /** All lawful rows of 1 to 6 states, by their number of states, the least first. */
    private static final List<List<String>> LAWFUL = allLawful();

    Kept now = new Kept();
    Kept[] images = new Kept[2];
    List<Integer> text = new ArrayList<>();
    int[] status = new int[3];

    // A row is told here as its states' figures to the base 12, without the 1.

    private static List<List<String>> allLawful() {
        List<List<String>> all = new ArrayList<>();
        all.add(List.of(""));
        for (int n = 1; n <= 6; n++) {
            List<String> rows = new ArrayList<>();
            for (String shorter : all.get(n - 1)) {
                for (int s = 0; s < 12; s++) {
                    String row = shorter + Character.forDigit(s, 12);
                    if (lawful(row)) {
                        rows.add(row);
                    }
                }
            }
            all.add(rows);
        }
        return all;
    }

    static boolean lawful(String row) {
        for (int i = 1; i < row.length(); i++) {
            int a = state(row, i - 1) / 2;
            int b = state(row, i) / 2;
            if (a - b > 1 || b - a > 1) {
                return false;
            }
        }
        return true;
    }

    static int state(String row, int i) {
        return Character.digit(row.charAt(i), 12);
    }

    static int number(String row) {
        return Integer.parseInt("1" + row, 12);
    }

    /** The row that a number tells, null if it tells none of 1 to so many states. */
    static String row(int number, int most) {
        if (number < 12) {
            return null;
        }
        String told = Integer.toString(number, 12);
        return told.charAt(0) == '1' && told.length() - 1 <= most ? told.substring(1) : null;
    }

    static String drawn(String row, int set) {
        StringBuilder b = new StringBuilder();
        for (int i = 0; i < row.length(); i++) {
            int open = state(row, i) / 2;
            int side = state(row, i) % 2;
            if ((set & (1 << i)) != 0 && open < 5) {
                open++;
            }
            b.append(Character.forDigit(2 * open + side, 12));
        }
        return b.toString();
    }

    /** What a kind sees; a . is nothing. */
    static String view(int kind, String row) {
        StringBuilder b = new StringBuilder();
        for (int i = 0; i < row.length(); i++) {
            int open = state(row, i) / 2;
            int side = state(row, i) % 2;
            if (kind == 3) {
                side = 1 - side;
            }
            if (kind == 4 && open == 5) {
                open = 4;
            }
            boolean blind = (kind == 2 || kind == 4) && (i - 2) % 3 == 0;
            b.append(blind ? '.' : Character.forDigit(2 * open + side, 12));
        }
        return b.toString();
    }

    static List<Integer> readBy(int kind, List<Meaning> code, String row) {
        String rest = view(kind, row);
        boolean shortest = kind == 1 || kind == 3;
        List<Integer> words = new ArrayList<>();
        while (!rest.isEmpty()) {
            Meaning taken = null;
            for (Meaning m : code) {
                if (rest.startsWith(m.row) && (taken == null
                        || (shortest ? m.row.length() < taken.row.length() : m.row.length() > taken.row.length()))) {
                    taken = m;
                }
            }
            if (taken != null) {
                words.add(taken.word);
            }
            rest = rest.substring(taken == null ? 1 : taken.row.length());
        }
        return words;
    }

    private List<Meaning> theCode(int code) {
        return now.book.codes.get(code);
    }

    private boolean isCode(int code) {
        return code >= 0 && code < now.book.codes.size();
    }

    private static boolean in(int n, int least, int most) {
        return n >= least && n <= most;
    }

    private int bad(int answer) {
        status[0]++;
        return answer;
    }

    private int no(int answer) {
        status[1]++;
        return answer;
    }

    private int full() {
        status[2]++;
        return -4;
    }

    int code() {
        if (now.book.codes.size() == 3) {
            return full();
        }
        now.past.clear();
        now.book.codes.add(new ArrayList<>());
        return now.book.codes.size() - 1;
    }

    private static boolean has(List<Meaning> code, String row) {
        return code.stream().anyMatch(m -> m.row.equals(row));
    }

    int entry(int code, int word, int number) {
        String row = row(number, 3);
        if (!isCode(code) || !in(word, 0, 9) || row == null) {
            return bad(-2);
        }
        if (has(theCode(code), row)) {
            return no(-3);
        }
        if (theCode(code).size() == 8) {
            return full();
        }
        now.past.clear();
        theCode(code).add(new Meaning(row, word));
        return theCode(code).size() - 1;
    }

    int told(int code, int entry, int what) {
        if (!isCode(code) || !in(entry, 0, theCode(code).size() - 1) || !in(what, 0, 1)) {
            return bad(-2);
        }
        Meaning m = theCode(code).get(entry);
        return what == 0 ? number(m.row) : m.word;
    }

    int draughts(int set) {
        if (!in(set, 0, 63)) {
            return bad(-2);
        }
        int before = now.draughts;
        now.draughts = set;
        return before;
    }

    int type(long v, int n) {
        if (!in(n, 1, 8)) {
            return bad(-2);
        }
        if (text.size() + n > 250) {
            return full();
        }
        String bits = String.format("%16s", Long.toHexString(v)).replace(' ', '0');
        for (int i = 8 - n; i < 8; i++) {
            text.add(Integer.parseInt(bits.substring(2 * i, 2 * i + 2), 16));
        }
        return text.size();
    }

    int clear() {
        int had = text.size();
        text.clear();
        return had;
    }

    private static final class Fault extends Exception {
        private static final long serialVersionUID = 1;
        final int place;

        Fault(int place) {
            this.place = place;
        }
    }

    /** A token: its place and its text; "" behind the last one. */
    private record Token(int place, String says) {
        int numberUpTo(int most) throws Fault {
            if (!says.matches("[0-9]{1,2}") || Integer.parseInt(says) > most) {
                throw new Fault(place);
            }
            return Integer.parseInt(says);
        }

        void mustBe(String sign) throws Fault {
            if (!says.equals(sign)) {
                throw new Fault(place);
            }
        }
    }

    private List<Token> tokens() {
        StringBuilder all = new StringBuilder();
        for (int b : text) {
            all.append((char) b);
        }
        List<Token> tokens = new ArrayList<>();
        var found = java.util.regex.Pattern.compile("[a-z]+|[0-9]+|[^ ]", java.util.regex.Pattern.DOTALL).matcher(all);
        while (found.find()) {
            tokens.add(new Token(found.start(), found.group()));
        }
        tokens.add(new Token(all.length(), ""));
        return tokens;
    }

    int read() {
        Book fresh = new Book();
        int set = 0;
        int items = 0;
        var next = tokens().iterator();
        try {
            for (Token t = next.next(); !t.says.isEmpty(); t = next.next()) {
                if (t.says.equals("code")) {
                    if (fresh.codes.size() == 3) {
                        throw new Fault(t.place);
                    }
                    next.next().mustBe(";");
                    fresh.codes.add(new ArrayList<>());
                } else if (t.says.equals("draught")) {
                    int told = next.next().numberUpTo(63);
                    next.next().mustBe(";");
                    set = told;
                } else {
                    t.mustBe("entry");
                    readEntry(fresh, next);
                }
                items++;
            }
        } catch (Fault f) {
            return -10 - f.place;
        }
        now.book = fresh;
        now.draughts = set;
        now.past.clear();
        return items;
    }

    private static void readEntry(Book fresh, java.util.Iterator<Token> next) throws Fault {
        Token c = next.next();
        List<Meaning> code = fresh.codes.isEmpty() ? null : fresh.codes.get(c.numberUpTo(fresh.codes.size() - 1));
        if (code == null || code.size() == 8) {
            throw new Fault(c.place);
        }
        int word = next.next().numberUpTo(9);
        String row = "" + Character.forDigit(next.next().numberUpTo(11), 12);
        Token t = next.next();
        while (row.length() < 3 && !t.says.equals(";")) {
            row += Character.forDigit(t.numberUpTo(11), 12);
            t = next.next();
        }
        t.mustBe(";");
        if (has(code, row)) {
            throw new Fault(t.place);
        }
        code.add(new Meaning(row, word));
    }

    int say(int number) {
        String row = row(number, 6);
        if (row == null) {
            return bad(-2);
        }
        if (!lawful(row)) {
            return no(-3);
        }
        now.saying = row;
        return row.length();
    }

    int seen(int beat) {
        if (beat < 0) {
            return bad(-2);
        }
        return beat >= now.saying.length() ? -1 : state(drawn(now.saying, now.draughts), beat);
    }

    private List<Integer> sayingRead(int kind, int code) {
        return readBy(kind, theCode(code), drawn(now.saying, now.draughts));
    }

    int reads(int kind, int code, int i) {
        if (!in(kind, 0, 4) || !isCode(code) || i < -1) {
            return bad(-10);
        }
        List<Integer> words = sayingRead(kind, code);
        return i == -1 ? words.size() : i < words.size() ? words.get(i) : -5;
    }

    int otherwise(int kindA, int codeA, int kindB, int codeB) {
        if (!in(kindA, 0, 4) || !isCode(codeA) || !in(kindB, 0, 4) || !isCode(codeB)) {
            return bad(-2);
        }
        int[] a = sayingRead(kindA, codeA).stream().mapToInt(w -> w).toArray();
        int[] b = sayingRead(kindB, codeB).stream().mapToInt(w -> w).toArray();
        return Arrays.mismatch(a, b);
    }

    private void keep() {
        now.past.add(now.book.copy());
        if (now.past.size() > 6) {
            now.past.remove(0);
        }
    }

    int utter(int code) {
        if (!isCode(code)) {
            return bad(-2);
        }
        keep();
        List<Integer> words = sayingRead(0, code);
        for (int word : words) {
            if (now.book.uses[word] < 999) {
                now.book.uses[word]++;
            }
        }
        return words.size();
    }

    int uses(int word) {
        return in(word, 0, 9) ? now.book.uses[word] : bad(-2);
    }

    int year() {
        keep();
        int gone = 0;
        int[] uses = now.book.uses;
        for (List<Meaning> code : now.book.codes) {
            int before = code.size();
            code.removeIf(m -> uses[m.word] == 0);
            gone += before - code.size();
        }
        now.book.uses = new int[10];
        return gone;
    }

    int undo() {
        if (now.past.isEmpty()) {
            return no(-3);
        }
        now.book = now.past.remove(now.past.size() - 1);
        return 1;
    }

    int want(int word) {
        if (!in(word, 0, 9)) {
            return bad(-2);
        }
        if (now.want.size() == 4) {
            return full();
        }
        now.want.add(word);
        return now.want.size();
    }

    int forget() {
        int had = now.want.size();
        now.want.clear();
        return had;
    }

    int hide(int codeA, int codeB, int k) {
        if (!isCode(codeA) || !isCode(codeB) || !in(k, 0, 5)) {
            return bad(-10);
        }
        for (int n = 1; n <= 5; n++) {
            for (String row : LAWFUL.get(n)) {
                if (readBy(0, theCode(codeA), row).equals(now.want) && readBy(2, theCode(codeB), row).size() <= k) {
                    return number(row);
                }
            }
        }
        return -1;
    }

    int save(int code, int word, int what) {
        if (!isCode(code) || !in(word, 0, 9) || !in(what, 0, 1)) {
            return bad(-10);
        }
        if (now.saying.isEmpty()) {
            return no(-20);
        }
        int best = -1;
        String found = "";
        for (String row : LAWFUL.get(now.saying.length())) {
            int changes = 0;
            for (int i = 0; i < row.length(); i++) {
                changes += row.charAt(i) == now.saying.charAt(i) ? 0 : 1;
            }
            if ((best < 0 || changes < best) && !readBy(0, theCode(code), drawn(row, now.draughts)).contains(word)) {
                best = changes;
                found = row;
            }
        }
        return best < 0 ? -1 : what == 0 ? best : number(found);
    }

    int safe(int code) {
        if (!isCode(code)) {
            return bad(-2);
        }
        int bits = 0;
        for (int word = 0; word < 10; word++) {
            boolean any = false;
            boolean all = true;
            for (Meaning m : theCode(code)) {
                if (m.word != word) {
                    continue;
                }
                any = true;
                for (int set = 0; set < 64; set++) {
                    for (int read : readBy(0, theCode(code), drawn(m.row, set))) {
                        all &= read == word;
                    }
                }
            }
            bits |= any && all ? 1 << word : 0;
        }
        return bits;
    }

    int fact(int number, int word) {
        String row = row(number, 5);
        if (row == null || !in(word, 0, 9)) {
            return bad(-2);
        }
        if (now.facts.size() == 8) {
            return full();
        }
        now.facts.add(new Meaning(row, word));
        return now.facts.size() - 1;
    }

    int mayBe() {
        int bits = 0;
        for (int code = 0; code < now.book.codes.size(); code++) {
            List<Meaning> c = theCode(code);
            if (now.facts.stream().allMatch(f -> readBy(0, c, f.row).contains(f.word))) {
                bits |= 1 << code;
            }
        }
        return bits;
    }

    int heat(int kind, int code, int word, int n, int seed) {
        if (!in(kind, 0, 4) || !isCode(code) || !in(word, 0, 9) || !in(n, 0, 60) || !in(seed, 0, 999999)) {
            return bad(-2);
        }
        var x = java.math.BigInteger.valueOf(seed);
        StringBuilder row = new StringBuilder();
        for (int i = 0; i < n; i++) {
            x = x.multiply(java.math.BigInteger.valueOf(1103515245)).add(java.math.BigInteger.valueOf(12345))
                    .mod(java.math.BigInteger.TWO.pow(31));
            row.append(Character.forDigit(x.shiftRight(16).intValue() % 12, 12));
        }
        return (int) readBy(kind, theCode(code), row.toString()).stream().filter(w -> w == word).count();
    }

    int image(int i) {
        if (!in(i, 0, 1)) {
            return bad(-2);
        }
        images[i] = now.copy();
        return 1;
    }

    int from(int i) {
        if (!in(i, 0, 1)) {
            return bad(-2);
        }
        if (images[i] == null) {
            return no(-3);
        }
        now = images[i].copy();
        return 1;
    }

    int status(int what) {
        return in(what, 0, 2) ? status[what] : bad(-1);
    }

    int count(int what) {
        return in(what, 0, 7) ? counts().get(what) : bad(-2);
    }

    private List<Integer> counts() {
        int entries = now.book.codes.stream().mapToInt(List::size).sum();
        return List.of(now.book.codes.size(), entries, now.saying.length(), now.want.size(), now.facts.size(),
                now.past.size(), text.size(), now.draughts);
    }

    long digest() {
        List<Integer> all = new ArrayList<>(counts());
        for (List<Meaning> code : now.book.codes) {
            all.add(code.size());
            for (Meaning m : code) {
                all.add(number(m.row));
                all.add(m.word);
            }
        }
        for (int u : now.book.uses) {
            all.add(u);
        }
        for (int i = 0; i < now.saying.length(); i++) {
            all.add(state(now.saying, i));
        }
        all.addAll(now.want);
        for (Meaning f : now.facts) {
            all.add(number(f.row));
            all.add(f.word);
        }
        long h = 811;
        for (int v : all) {
            h = 31 * h + v;
        }
        return h;
    }
}

/** A sign language of fans: what each call promises is told in ../shared/DOC.md. */
public final class FanTalk {
    public static final int NONE = -1, BAD = -2, NO = -3, FULL = -4;

    private static final int KINDS = 5, FRIEND = 0, CHAPERONE = 2;
    private static final int STATES = 12, WORDS = 10, DRAUGHT_SETS = 64;
    private static final int MOST_CODES = 3, MOST_ENTRIES = 8, ENTRY_BEATS = 3;
    private static final int SAYING_BEATS = 6, HIDE_BEATS = 5, FACT_BEATS = 5, HEAT_BEATS = 60;
    private static final int MOST_WANTED = 4, MOST_FACTS = 8, MOST_UNDONE = 6, MOST_USES = 999;
    private static final int TEXT_BYTES = 250, TYPED_BYTES = 8;
    private static final int IMAGES = 2, MOST_HIDDEN = 5, MOST_SEED = 999999;
    private static final int NOT_SO_MANY = -5, FAR_BAD = -10, FAR_NO = -20;

    // Far above the lawful rows of any one number of beats.
    private static final int MOST_STEPS = 1000000;
    // What a search tells in place of a beat, when the row is as it should be.
    private static final int RIGHT = 99;

    private final Talk now = new Talk();
    private final Talk[] images = {new Talk(), new Talk()};
    private final boolean[] kept = new boolean[IMAGES];
    private final Script script = new Script();
    private final int[] refusals = new int[3];
    private final Friend[] readers = {new Friend(), new Hasty(), new Chaperone(), new Mirror(), new Aunt()};
    private final Walk walk = new Walk();
    private final int[] drawn = new int[SAYING_BEATS];
    private final int[] first = new int[SAYING_BEATS];
    private final int[] spelt = new int[SAYING_BEATS];
    private final int[] air = new int[HEAT_BEATS];

    public FanTalk() {
    }

    // ---- codes

    public int code() {
        if (now.codes.codes >= MOST_CODES) {
            return refused(FULL, FULL);
        }
        now.past.kept = 0;
        return now.codes.open();
    }

    public int entry(int code, int word, int row) {
        int beats = Rows.beats(row);
        if (!isCode(code) || !isWord(word) || beats < 1 || beats > ENTRY_BEATS) {
            return refused(BAD, BAD);
        }
        if (now.codes.has(code, row)) {
            return refused(NO, NO);
        }
        if (now.codes.entries[code] >= MOST_ENTRIES) {
            return refused(FULL, FULL);
        }
        now.past.kept = 0;
        return now.codes.add(code, word, row);
    }

    public int told(int code, int entry, int what) {
        if (!isCode(code) || entry < 0 || entry >= now.codes.entries[code] || what < 0 || what > 1) {
            return refused(BAD, BAD);
        }
        int place = code * MOST_ENTRIES + entry;
        return what == 0 ? now.codes.rows[place] : now.codes.words[place];
    }

    public int draughts(int set) {
        if (set < 0 || set >= DRAUGHT_SETS) {
            return refused(BAD, BAD);
        }
        int before = now.draughts;
        now.draughts = set;
        return before;
    }

    public int type(long v, int n) {
        if (n < 1 || n > TYPED_BYTES) {
            return refused(BAD, BAD);
        }
        if (script.length + n > TEXT_BYTES) {
            return refused(FULL, FULL);
        }
        for (int i = n - 1; i >= 0; i--) {
            script.put((int) (v >> (8 * i)) & 255);
        }
        return script.length;
    }

    public int clear() {
        int had = script.length;
        script.length = 0;
        return had;
    }

    public int read() {
        int fault = script.fault();
        if (fault != NONE) {
            return -10 - fault;
        }
        now.codes.take(script.fresh);
        now.draughts = script.draughts;
        now.past.kept = 0;
        return script.items;
    }

    // ---- sayings

    public int say(int row) {
        int beats = Rows.beats(row);
        if (beats < 1) {
            return refused(BAD, BAD);
        }
        Rows.spell(row, beats, spelt, 0);
        if (!Rows.isLawful(spelt, beats)) {
            return refused(NO, NO);
        }
        System.arraycopy(spelt, 0, now.saying, 0, beats);
        now.beats = beats;
        return beats;
    }

    public int seen(int beat) {
        if (beat < 0) {
            return refused(BAD, BAD);
        }
        if (beat >= now.beats) {
            return NONE;
        }
        drawSaying();
        return drawn[beat];
    }

    public int reads(int kind, int code, int i) {
        if (!isKind(kind) || !isCode(code) || i < NONE) {
            return refused(BAD, FAR_BAD);
        }
        Friend reader = readSaying(kind, code);
        if (i == NONE) {
            return reader.heard;
        }
        return i < reader.heard ? reader.words[i] : NOT_SO_MANY;
    }

    public int otherwise(int kindA, int codeA, int kindB, int codeB) {
        if (!isKind(kindA) || !isCode(codeA) || !isKind(kindB) || !isCode(codeB)) {
            return refused(BAD, BAD);
        }
        // Both may be of one kind, and so one reader: what the first read is put by.
        Friend reader = readSaying(kindA, codeA);
        int heard = reader.heard;
        System.arraycopy(reader.words, 0, first, 0, heard);
        reader = readSaying(kindB, codeB);
        int both = Math.min(heard, reader.heard);
        for (int i = 0; i < both; i++) {
            if (first[i] != reader.words[i]) {
                return i;
            }
        }
        return heard == reader.heard ? NONE : both;
    }

    public int utter(int code) {
        if (!isCode(code)) {
            return refused(BAD, BAD);
        }
        now.past.keep(now.codes);
        Friend friend = readSaying(FRIEND, code);
        for (int i = 0; i < friend.heard; i++) {
            now.codes.use(friend.words[i]);
        }
        return friend.heard;
    }

    public int uses(int word) {
        return isWord(word) ? now.codes.uses[word] : refused(BAD, BAD);
    }

    public int year() {
        now.past.keep(now.codes);
        return now.codes.dropUnused();
    }

    public int undo() {
        if (now.past.kept == 0) {
            return refused(NO, NO);
        }
        now.past.bringBack(now.codes);
        return 1;
    }

    // ---- what to say

    public int want(int word) {
        if (!isWord(word)) {
            return refused(BAD, BAD);
        }
        if (now.wants >= MOST_WANTED) {
            return refused(FULL, FULL);
        }
        now.want[now.wants] = word;
        now.wants++;
        return now.wants;
    }

    public int forget() {
        int had = now.wants;
        now.wants = 0;
        return had;
    }

    public int hide(int codeA, int codeB, int k) {
        if (!isCode(codeA) || !isCode(codeB) || k < 0 || k > MOST_HIDDEN) {
            return refused(BAD, FAR_BAD);
        }
        readers[FRIEND].learn(now.codes, codeA);
        readers[CHAPERONE].learn(now.codes, codeB);
        // Each word takes a beat at least.
        for (int beats = Math.max(1, now.wants); beats <= HIDE_BEATS; beats++) {
            if (findHiding(beats, k)) {
                return walk.number();
            }
        }
        return NONE;
    }

    public int save(int code, int word, int what) {
        if (!isCode(code) || !isWord(word) || what < 0 || what > 1) {
            return refused(BAD, FAR_BAD);
        }
        if (now.beats == 0) {
            return refused(NO, FAR_NO);
        }
        readers[FRIEND].learn(now.codes, code);
        for (int changes = 0; changes <= now.beats; changes++) {
            if (findSaving(changes, word)) {
                return what == 0 ? changes : walk.number();
            }
        }
        return NONE;
    }

    public int safe(int code) {
        if (!isCode(code)) {
            return refused(BAD, BAD);
        }
        readers[FRIEND].learn(now.codes, code);
        int meant = 0;
        int unsafe = 0;
        for (int i = 0; i < now.codes.entries[code]; i++) {
            int place = code * MOST_ENTRIES + i;
            int word = now.codes.words[place];
            meant |= 1 << word;
            if (!isSafe(now.codes.rows[place], word)) {
                unsafe |= 1 << word;
            }
        }
        return meant & ~unsafe;
    }

    public int fact(int row, int word) {
        int beats = Rows.beats(row);
        if (beats < 1 || beats > FACT_BEATS || !isWord(word)) {
            return refused(BAD, BAD);
        }
        if (now.facts >= MOST_FACTS) {
            return refused(FULL, FULL);
        }
        now.factRows[now.facts] = row;
        now.factWords[now.facts] = word;
        now.facts++;
        return now.facts - 1;
    }

    public int mayBe() {
        int bits = 0;
        for (int code = 0; code < now.codes.codes; code++) {
            if (bearsFacts(code)) {
                bits |= 1 << code;
            }
        }
        return bits;
    }

    public int heat(int kind, int code, int word, int n, int seed) {
        if (!isKind(kind) || !isCode(code) || !isWord(word)
                || n < 0 || n > HEAT_BEATS || seed < 0 || seed > MOST_SEED) {
            return refused(BAD, BAD);
        }
        long x = seed;
        for (int beat = 0; beat < n; beat++) {
            x = (x * 1103515245L + 12345L) % 2147483648L;
            air[beat] = (int) (x / 65536L % STATES);
        }
        Friend reader = readers[kind];
        reader.learn(now.codes, code);
        reader.listen(air, n);
        return reader.timesOf(word);
    }

    // ---- what there is

    public int image(int i) {
        if (i < 0 || i >= IMAGES) {
            return refused(BAD, BAD);
        }
        images[i].take(now);
        kept[i] = true;
        return 1;
    }

    public int from(int i) {
        if (i < 0 || i >= IMAGES) {
            return refused(BAD, BAD);
        }
        if (!kept[i]) {
            return refused(NO, NO);
        }
        now.take(images[i]);
        return 1;
    }

    public int status(int what) {
        if (what < 0 || what >= refusals.length) {
            return refused(BAD, -1);
        }
        return refusals[what];
    }

    public int count(int what) {
        int many = howMany(what);
        return many < 0 ? refused(BAD, BAD) : many;
    }

    public long digest() {
        long h = 811;
        for (int what = 0; what < 8; what++) {
            h = 31 * h + howMany(what);
        }
        h = now.codes.digestOn(h);
        for (int i = 0; i < now.beats; i++) {
            h = 31 * h + now.saying[i];
        }
        for (int i = 0; i < now.wants; i++) {
            h = 31 * h + now.want[i];
        }
        for (int i = 0; i < now.facts; i++) {
            h = 31 * h + now.factRows[i];
            h = 31 * h + now.factWords[i];
        }
        return h;
    }

    // ---- of its own

    private boolean isCode(int code) {
        return code >= 0 && code < now.codes.codes;
    }

    private static boolean isWord(int word) {
        return word >= 0 && word < WORDS;
    }

    private static boolean isKind(int kind) {
        return kind >= 0 && kind < KINDS;
    }

    /** Counts a refusal as BAD, NO or FULL, and hands on what the call answers. */
    private int refused(int as, int answer) {
        refusals[BAD - as]++;
        return answer;
    }

    private int howMany(int what) {
        switch (what) {
            case 0: return now.codes.codes;
            case 1: return now.codes.allEntries();
            case 2: return now.beats;
            case 3: return now.wants;
            case 4: return now.facts;
            case 5: return now.past.kept;
            case 6: return script.length;
            case 7: return now.draughts;
            default: return NONE;
        }
    }

    private void drawSaying() {
        Rows.draw(now.saying, now.beats, now.draughts, drawn);
    }

    private Friend readSaying(int kind, int code) {
        drawSaying();
        Friend reader = readers[kind];
        reader.learn(now.codes, code);
        reader.listen(drawn, now.beats);
        return reader;
    }

    /** Whether the walk comes to a row that hides WANT; then it stands there. */
    private boolean findHiding(int beats, int k) {
        walk.begin(beats);
        boolean more = true;
        for (int i = 0; more && i < MOST_STEPS; i++) {
            int wrong = wrongToHide(k);
            if (wrong == RIGHT) {
                return true;
            }
            more = walk.step(wrong);
        }
        return false;
    }

    // The beat told is the last one that had a part in what is wrong: all rows alike
    // up to it are as wrong, so that the walk leaves them out.
    private int wrongToHide(int k) {
        Friend friend = readers[FRIEND];
        friend.listen(walk.states, walk.beats);
        int both = Math.min(friend.heard, now.wants);
        for (int i = 0; i < both; i++) {
            if (friend.words[i] != now.want[i]) {
                return friend.lookedFor[i];
            }
        }
        if (friend.heard > now.wants) {
            return friend.lookedFor[now.wants];
        }
        if (friend.heard < now.wants) {
            return friend.looked;
        }
        Friend chaperone = readers[CHAPERONE];
        chaperone.listen(walk.states, walk.beats);
        return chaperone.heard > k ? chaperone.lookedFor[k] : RIGHT;
    }

    /** Whether the walk comes to a row with so many changes that saves; then it stands there. */
    private boolean findSaving(int changes, int word) {
        walk.begin(now.beats);
        boolean more = true;
        for (int i = 0; more && i < MOST_STEPS; i++) {
            int wrong = wrongToSave(changes, word);
            if (wrong == RIGHT) {
                return true;
            }
            more = walk.step(wrong);
        }
        return false;
    }

    // As wrongToHide, the beat by which it is wrong.
    private int wrongToSave(int changes, int word) {
        int left = changes;
        for (int beat = 0; beat < now.beats; beat++) {
            if (walk.states[beat] != now.saying[beat]) {
                left--;
            }
            if (left < 0) {
                return beat;
            }
        }
        Rows.draw(walk.states, walk.beats, now.draughts, drawn);
        Friend friend = readers[FRIEND];
        friend.listen(drawn, walk.beats);
        for (int i = 0; i < friend.heard; i++) {
            if (friend.words[i] == word) {
                return friend.lookedFor[i];
            }
        }
        return RIGHT;
    }

    private boolean isSafe(int number, int word) {
        int beats = Rows.beats(number);
        Rows.spell(number, beats, spelt, 0);
        Friend friend = readers[FRIEND];
        for (int set = 0; set < 1 << beats; set++) {
            Rows.draw(spelt, beats, set, drawn);
            friend.listen(drawn, beats);
            if (friend.timesOf(word) < friend.heard) {
                return false;
            }
        }
        return true;
    }

    private boolean bearsFacts(int code) {
        Friend friend = readers[FRIEND];
        friend.learn(now.codes, code);
        for (int i = 0; i < now.facts; i++) {
            int beats = Rows.beats(now.factRows[i]);
            Rows.spell(now.factRows[i], beats, spelt, 0);
            friend.listen(spelt, beats);
            if (friend.timesOf(now.factWords[i]) == 0) {
                return false;
            }
        }
        return true;
    }

    /** Rows of states, and the numbers that tell them. */
    private static final class Rows {
        /** How many states a row's number has; 0: it is no row. */
        static int beats(int number) {
            int least = STATES;
            for (int n = 1; n <= SAYING_BEATS; n++) {
                if (number >= least && number < 2 * least) {
                    return n;
                }
                least *= STATES;
            }
            return 0;
        }

        static void spell(int number, int beats, int[] states, int from) {
            int rest = number;
            for (int i = from + beats - 1; i >= from && i < states.length; i--) {
                states[i] = rest % STATES;
                rest /= STATES;
            }
        }

        static int number(int[] states, int beats) {
            int number = 1;
            for (int i = 0; i < beats && i < states.length; i++) {
                number = number * STATES + states[i];
            }
            return number;
        }

        static boolean isLawful(int[] states, int beats) {
            for (int i = 1; i < beats && i < states.length; i++) {
                if (Math.abs(states[i] / 2 - states[i - 1] / 2) > 1) {
                    return false;
                }
            }
            return true;
        }

        /** Makes the row as it is seen by a set of draughts. */
        static void draw(int[] states, int beats, int set, int[] seen) {
            for (int i = 0; i < beats && i < states.length && i < seen.length; i++) {
                boolean opened = (set >> i & 1) == 1 && states[i] < STATES - 2;
                seen[i] = opened ? states[i] + 2 : states[i];
            }
        }
    }

    /** The lawful rows of a number of beats, one by one, the least number first. */
    private static final class Walk {
        final int[] states = new int[SAYING_BEATS];
        int beats;

        void begin(int many) {
            beats = Math.min(many, states.length);
            closeBehind(0);
        }

        /** Goes to the next row that is not the same up to a beat; false: there is none. */
        boolean step(int beat) {
            for (int i = Math.min(beat, beats - 1); i >= 0; i--) {
                if (states[i] < greatest(i)) {
                    states[i]++;
                    closeBehind(i + 1);
                    return true;
                }
            }
            return false;
        }

        int number() {
            return Rows.number(states, beats);
        }

        // States are in the order of how open they are: what is lawful behind one is a run of them.
        private int greatest(int beat) {
            return beat == 0 ? STATES - 1 : Math.min(STATES - 1, states[beat - 1] / 2 * 2 + 3);
        }

        private void closeBehind(int beat) {
            for (int i = beat; i < beats; i++) {
                states[i] = i == 0 ? 0 : Math.max(0, states[i - 1] / 2 * 2 - 2);
            }
        }
    }

    /** A reader who takes the longest entry and sees what is there; the other kinds are told by how they differ. */
    private static class Friend {
        final int[] words = new int[HEAT_BEATS];
        // The last beat that was looked at, all in all and by the time each word was read.
        final int[] lookedFor = new int[HEAT_BEATS];
        int looked;
        int heard;
        private final int[] seen = new int[HEAT_BEATS];
        private final int[] meanings = new int[MOST_ENTRIES];
        private final int[] lengths = new int[MOST_ENTRIES];
        private final int[] states = new int[MOST_ENTRIES * ENTRY_BEATS];
        private int entries;

        boolean prefers(int length, int other) {
            return length > other;
        }

        /** The state that is seen for one that is there; NONE: nothing is. */
        int sees(int state, int beat) {
            return state;
        }

        final void learn(Codes codes, int code) {
            entries = codes.entries[code];
            for (int i = 0; i < entries; i++) {
                int place = code * MOST_ENTRIES + i;
                meanings[i] = codes.words[place];
                lengths[i] = Rows.beats(codes.rows[place]);
                Rows.spell(codes.rows[place], lengths[i], states, i * ENTRY_BEATS);
            }
        }

        final void listen(int[] row, int beats) {
            int many = Math.min(beats, Math.min(row.length, seen.length));
            for (int beat = 0; beat < many; beat++) {
                seen[beat] = sees(row[beat], beat);
            }
            looked = NONE;
            heard = 0;
            int behind = 0;
            for (int beat = 0; beat < many; beat++) {
                int entry = beat < behind ? NONE : choice(beat, many);
                if (entry != NONE) {
                    words[heard] = meanings[entry];
                    lookedFor[heard] = looked;
                    heard++;
                    behind = beat + lengths[entry];
                }
            }
        }

        final int timesOf(int word) {
            int times = 0;
            for (int i = 0; i < heard; i++) {
                if (words[i] == word) {
                    times++;
                }
            }
            return times;
        }

        private int choice(int beat, int beats) {
            int best = NONE;
            for (int i = 0; i < entries; i++) {
                if (beat + lengths[i] <= beats && shows(i, beat)
                        && (best == NONE || prefers(lengths[i], lengths[best]))) {
                    best = i;
                }
            }
            return best;
        }

        private boolean shows(int entry, int beat) {
            for (int i = 0; i < lengths[entry]; i++) {
                looked = Math.max(looked, beat + i);
                if (seen[beat + i] != states[entry * ENTRY_BEATS + i]) {
                    return false;
                }
            }
            return true;
        }
    }

    private static class Hasty extends Friend {
        boolean prefers(int length, int other) {
            return length < other;
        }
    }

    private static class Chaperone extends Friend {
        int sees(int state, int beat) {
            return beat % 3 == 2 ? NONE : state;
        }
    }

    private static final class Mirror extends Hasty {
        int sees(int state, int beat) {
            return super.sees(state, beat) ^ 1;
        }
    }

    private static final class Aunt extends Chaperone {
        int sees(int state, int beat) {
            int there = super.sees(state, beat);
            return there >= STATES - 2 ? there - 2 : there;
        }
    }

    /** Codes with their entries, and how often words were used. */
    private static final class Codes {
        int codes;
        final int[] entries = new int[MOST_CODES];
        final int[] rows = new int[MOST_CODES * MOST_ENTRIES];
        final int[] words = new int[MOST_CODES * MOST_ENTRIES];
        final int[] uses = new int[WORDS];

        void take(Codes other) {
            codes = other.codes;
            System.arraycopy(other.entries, 0, entries, 0, entries.length);
            System.arraycopy(other.rows, 0, rows, 0, rows.length);
            System.arraycopy(other.words, 0, words, 0, words.length);
            System.arraycopy(other.uses, 0, uses, 0, uses.length);
        }

        int open() {
            entries[codes] = 0;
            codes++;
            return codes - 1;
        }

        boolean has(int code, int row) {
            for (int i = 0; i < entries[code]; i++) {
                if (rows[code * MOST_ENTRIES + i] == row) {
                    return true;
                }
            }
            return false;
        }

        int add(int code, int word, int row) {
            put(code, entries[code], word, row);
            entries[code]++;
            return entries[code] - 1;
        }

        private void put(int code, int entry, int word, int row) {
            rows[code * MOST_ENTRIES + entry] = row;
            words[code * MOST_ENTRIES + entry] = word;
        }

        void use(int word) {
            uses[word] = Math.min(MOST_USES, uses[word] + 1);
        }

        int allEntries() {
            int all = 0;
            for (int code = 0; code < codes; code++) {
                all += entries[code];
            }
            return all;
        }

        /** Lets go the entries whose words were not used, and forgets all uses; how many are gone. */
        int dropUnused() {
            int before = allEntries();
            for (int code = 0; code < codes; code++) {
                int left = 0;
                for (int i = 0; i < entries[code]; i++) {
                    int place = code * MOST_ENTRIES + i;
                    if (uses[words[place]] > 0) {
                        put(code, left, words[place], rows[place]);
                        left++;
                    }
                }
                entries[code] = left;
            }
            for (int word = 0; word < WORDS; word++) {
                uses[word] = 0;
            }
            return before - allEntries();
        }

        long digestOn(long before) {
            long h = before;
            for (int code = 0; code < codes; code++) {
                h = 31 * h + entries[code];
                for (int i = 0; i < entries[code]; i++) {
                    h = 31 * h + rows[code * MOST_ENTRIES + i];
                    h = 31 * h + words[code * MOST_ENTRIES + i];
                }
            }
            for (int word = 0; word < WORDS; word++) {
                h = 31 * h + uses[word];
            }
            return h;
        }
    }

    /** Codes as they were, the last ones kept behind the others. */
    private static final class Past {
        private final Codes[] before = {
            new Codes(), new Codes(), new Codes(), new Codes(), new Codes(), new Codes()};
        int kept;

        void keep(Codes codes) {
            if (kept == MOST_UNDONE) {
                letTheOldestGo();
            }
            before[kept].take(codes);
            kept++;
        }

        // The oldest object is used again for the newest: none is made anew.
        private void letTheOldestGo() {
            Codes oldest = before[0];
            for (int i = 1; i < MOST_UNDONE; i++) {
                before[i - 1] = before[i];
            }
            before[MOST_UNDONE - 1] = oldest;
            kept--;
        }

        void bringBack(Codes codes) {
            if (kept > 0) {
                kept--;
                codes.take(before[kept]);
            }
        }

        void take(Past other) {
            kept = other.kept;
            for (int i = 0; i < kept; i++) {
                before[i].take(other.before[i]);
            }
        }
    }

    /** All that an image keeps. */
    private static final class Talk {
        final Codes codes = new Codes();
        final Past past = new Past();
        int draughts;
        final int[] saying = new int[SAYING_BEATS];
        int beats;
        final int[] want = new int[MOST_WANTED];
        int wants;
        final int[] factRows = new int[MOST_FACTS];
        final int[] factWords = new int[MOST_FACTS];
        int facts;

        void take(Talk other) {
            codes.take(other.codes);
            past.take(other.past);
            draughts = other.draughts;
            System.arraycopy(other.saying, 0, saying, 0, saying.length);
            beats = other.beats;
            System.arraycopy(other.want, 0, want, 0, want.length);
            wants = other.wants;
            System.arraycopy(other.factRows, 0, factRows, 0, factRows.length);
            System.arraycopy(other.factWords, 0, factWords, 0, factWords.length);
            facts = other.facts;
        }
    }

    /** The text by which codes are told, and what it tells. */
    private static final class Script {
        private static final int END = 0, NAME = 1, NUMBER = 2, STOP = 3, WRONG = 4;
        private static final int BLANK = 32, MOST_FIGURES = 2;

        private final int[] text = new int[TEXT_BYTES];
        int length;
        final Codes fresh = new Codes();
        int draughts;
        int items;
        // The token that comes next: what it is, where it is, its value if it is a number.
        private int token;
        private int start;
        private int end;
        private int value;

        void put(int sign) {
            if (length < text.length) {
                text[length] = sign;
                length++;
            }
        }

        /** Reads the text anew: where its fault is, or NONE. */
        int fault() {
            fresh.codes = 0;
            draughts = 0;
            items = 0;
            end = 0;
            goOn();
            // An item takes at least one byte.
            for (int i = 0; i < TEXT_BYTES && token != END; i++) {
                if (!isItem()) {
                    return start;
                }
                items++;
                goOn();
            }
            return NONE;
        }

        private boolean isItem() {
            if (isName("code")) {
                return isCodeItem();
            }
            if (isName("entry")) {
                return isEntryItem();
            }
            return isName("draught") && isDraughtItem();
        }

        private boolean isCodeItem() {
            if (fresh.codes >= MOST_CODES) {
                return false;
            }
            goOn();
            if (token != STOP) {
                return false;
            }
            fresh.open();
            return true;
        }

        private boolean isEntryItem() {
            goOn();
            int code = value;
            if (!isNumberBelow(fresh.codes) || fresh.entries[code] >= MOST_ENTRIES) {
                return false;
            }
            goOn();
            int word = value;
            if (!isNumberBelow(WORDS)) {
                return false;
            }
            goOn();
            if (!isNumberBelow(STATES)) {
                return false;
            }
            int row = 1;
            for (int i = 0; i < ENTRY_BEATS && isNumberBelow(STATES); i++) {
                row = row * STATES + value;
                goOn();
            }
            if (token != STOP || fresh.has(code, row)) {
                return false;
            }
            fresh.add(code, word, row);
            return true;
        }

        private boolean isDraughtItem() {
            goOn();
            int set = value;
            if (!isNumberBelow(DRAUGHT_SETS)) {
                return false;
            }
            goOn();
            if (token != STOP) {
                return false;
            }
            draughts = set;
            return true;
        }

        private boolean isNumberBelow(int bound) {
            return token == NUMBER && value < bound;
        }

        private boolean isName(String name) {
            if (token != NAME || end - start != name.length()) {
                return false;
            }
            for (int i = 0; i < name.length(); i++) {
                if (text[start + i] != name.charAt(i)) {
                    return false;
                }
            }
            return true;
        }

        /** Goes on to the token behind the one that was next. */
        private void goOn() {
            start = end;
            while (start < length && text[start] == BLANK) {
                start++;
            }
            end = start;
            value = 0;
            if (start >= length) {
                token = END;
            } else if (isLetter(text[start])) {
                goOverLetters();
            } else if (isFigure(text[start])) {
                goOverFigures();
            } else {
                token = text[start] == ';' ? STOP : WRONG;
                end++;
            }
        }

        private void goOverLetters() {
            token = NAME;
            while (end < length && isLetter(text[end])) {
                end++;
            }
        }

        private void goOverFigures() {
            // A long run's value may wrap around: it is not asked for.
            while (end < length && isFigure(text[end])) {
                value = value * 10 + text[end] - '0';
                end++;
            }
            token = end - start <= MOST_FIGURES ? NUMBER : WRONG;
        }

        private static boolean isLetter(int sign) {
            return sign >= 'a' && sign <= 'z';
        }

        private static boolean isFigure(int sign) {
            return sign >= '0' && sign <= '9';
        }
    }
}

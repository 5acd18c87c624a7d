/**
 * A bounded cache: values with weights, kept by how often and how lately they were asked for, with
 * times to live, loads and reloads on the way, and a window for new ones that grows and shrinks by
 * how well it goes.
 */
public final class WindowCache {
    public static final int NONE = -1;

    private static final int KEYS = 1000;
    private static final int MOST_MAX = 5000;
    private static final int MOST_WEIGHT = 1000;
    private static final int LOAD_BEGUN = -2;
    private static final long LAST_TIME = 1L << 40;
    private static final long NEVER = 1L << 62;

    private static final int EXPLICIT = 0;
    private static final int REPLACED = 1;
    private static final int EXPIRED = 2;
    private static final int EVICTED = 3;

    private static final int NEW = 0;
    private static final int CHANGED = 1;
    private static final int GONE = 2;

    /** A candidate asked for more often than this may stay by a draw. */
    private static final int SELDOM = 5;

    private final Entry[] map = new Entry[KEYS];
    private final Way[] ways = new Way[KEYS];
    private final Notes evenNotes = new Notes();
    private final Notes oddNotes = new Notes();
    private final Tasks tasks = new Tasks();
    private final Log log = new Log();
    private final Lives lives;
    private final Counts counts;
    private final Rooms rooms;
    private final Climb climb;
    private int draw = 1;
    private int finished;
    private int failed;
    private int evicted;
    private int evictedWeight;

    public WindowCache(int max, int write, int touch) {
        int most = Math.max(1, Math.min(max, MOST_MAX));
        lives = new Lives(write, touch);
        counts = new Counts(most);
        rooms = new Rooms(most);
        climb = new Climb(most);
    }

    public int get(int key) {
        return isKey(key) ? ask(key) : NONE;
    }

    public boolean has(int key) {
        return isKey(key) && isSeen(map[key]);
    }

    public boolean put(int key, int value, int weight, int own) throws IllegalArgumentException {
        if (!isKey(key) || !isValue(value, weight) || own < 0) {
            throw new IllegalArgumentException();
        }
        return store(key, value, weight, own);
    }

    public int remove(int key) {
        Entry entry = isKey(key) ? map[key] : null;
        if (entry == null) {
            return NONE;
        }
        boolean seen = isSeen(entry);
        dropFromMap(entry, seen ? EXPLICIT : EXPIRED);
        if (tasks.addUntilFull(GONE, entry)) {
            tidy();
        }
        return seen ? entry.value : NONE;
    }

    public int load(int key) throws IllegalArgumentException, IllegalStateException {
        if (!isKey(key)) {
            throw new IllegalArgumentException();
        }
        int value = ask(key);
        if (value != NONE) {
            return value;
        }
        if (ways[key] != null) {
            throw new IllegalStateException();
        }
        ways[key] = new Way(null, 0);
        return LOAD_BEGUN;
    }

    public boolean refresh(int key) {
        Entry entry = isKey(key) ? map[key] : null;
        if (entry == null || !isSeen(entry) || ways[key] != null) {
            return false;
        }
        ways[key] = new Way(entry, entry.edition);
        return true;
    }

    public boolean finish(int key, int value, int weight) throws IllegalStateException, IllegalArgumentException {
        Way way = isKey(key) ? ways[key] : null;
        if (way == null) {
            throw new IllegalStateException();
        }
        if (!isValue(value, weight)) {
            throw new IllegalArgumentException();
        }
        ways[key] = null;
        finished++;
        if (!isWelcome(way, key)) {
            return false;
        }
        store(key, value, weight, 0);
        return true;
    }

    public void fail(int key) throws IllegalStateException {
        if (!isKey(key) || ways[key] == null) {
            throw new IllegalStateException();
        }
        ways[key] = null;
        failed++;
    }

    public long advance(int n) {
        if (n < 0 || lives.time + n > LAST_TIME) {
            return NONE;
        }
        lives.time += n;
        return lives.time;
    }

    public int maintain() {
        tidy();
        return rooms.weight();
    }

    public int count(int what) {
        switch (what) {
            case 0: return entriesInMap(false);
            case 1: return entriesInMap(true);
            case 2: return rooms.weight();
            case 3: return rooms.window.weight;
            case 4: return rooms.probation.weight;
            case 5: return rooms.shielded.weight;
            case 6: return rooms.windowLimit;
            case 7: return climb.hits;
            case 8: return climb.misses;
            case 9: return finished;
            case 10: return failed;
            case 11: return evicted;
            case 12: return evictedWeight;
            case 13: return evenNotes.size + oddNotes.size;
            case 14: return tasks.size;
            case 15: return counts.added;
            case 16: return evenNotes.lost + oddNotes.lost;
            case 17: return keysOnTheirWay();
            default: return NONE;
        }
    }

    public int often(int key) {
        return isKey(key) ? counts.leastOf(key) : NONE;
    }

    public int at(int room, int k) {
        switch (room) {
            case 0: return rooms.window.keyAt(k);
            case 1: return rooms.probation.keyAt(k);
            case 2: return rooms.shielded.keyAt(k);
            default: return NONE;
        }
    }

    public int listened(int k, int what) {
        return log.told(k, what);
    }

    private static boolean isKey(int key) {
        return key >= 0 && key < KEYS;
    }

    private static boolean isValue(int value, int weight) {
        return value >= 0 && weight >= 1 && weight <= MOST_WEIGHT;
    }

    private boolean isSeen(Entry entry) {
        return entry != null && !lives.isOver(entry);
    }

    /** What get() and load() share: the value of a key, as a hit or a miss. */
    private int ask(int key) {
        Entry entry = map[key];
        if (entry == null || lives.isOver(entry)) {
            climb.misses++;
            return NONE;
        }
        climb.hits++;
        lives.prolong(entry);
        Notes notes = key % 2 == 0 ? evenNotes : oddNotes;
        notes.add(entry);
        return entry.value;
    }

    /** Whether what was on its way still finds the map as it needs it. */
    private boolean isWelcome(Way way, int key) {
        Entry entry = map[key];
        if (way.entry == null) {
            return !isSeen(entry);
        }
        return entry == way.entry && isSeen(entry) && way.entry.edition == way.edition;
    }

    private boolean store(int key, int value, int weight, int own) {
        Entry old = map[key];
        if (old != null && isSeen(old)) {
            log.add(old, REPLACED);
            fill(old, value, weight, own);
            if (tasks.addUntilFull(CHANGED, old)) {
                tidy();
            }
            return true;
        }
        if (old != null) {
            dropFromMap(old, EXPIRED);
            if (tasks.addUntilFull(GONE, old)) {
                tidy();
            }
        }
        Entry entry = new Entry(key);
        fill(entry, value, weight, own);
        map[key] = entry;
        if (tasks.addUntilFull(NEW, entry)) {
            tidy();
        }
        return false;
    }

    private void fill(Entry entry, int value, int weight, int own) {
        if (entry.room != null) {
            entry.room.weight += weight - entry.weight;
        }
        entry.value = value;
        entry.weight = weight;
        entry.edition++;
        lives.begin(entry, own);
    }

    private void dropFromMap(Entry entry, int why) {
        map[entry.key] = null;
        entry.gone = true;
        log.add(entry, why);
    }

    private int entriesInMap(boolean overOnly) {
        int found = 0;
        for (int key = 0; key < KEYS; key++) {
            Entry entry = map[key];
            if (entry != null && (!overOnly || lives.isOver(entry))) {
                found++;
            }
        }
        return found;
    }

    private int keysOnTheirWay() {
        int found = 0;
        for (int key = 0; key < KEYS; key++) {
            if (ways[key] != null) {
                found++;
            }
        }
        return found;
    }

    /** MAINTENANCE, its six steps in order. */
    private void tidy() {
        takeNotes(evenNotes);
        takeNotes(oddNotes);
        takeTasks();
        expire();
        evict(rooms.spillWindow());
        climbIfDue();
    }

    private void takeNotes(Notes notes) {
        for (int i = 0; i < notes.size; i++) {
            Entry entry = notes.entries[i];
            if (entry != null && entry.room != null) {
                counts.add(entry.key);
                rooms.touch(entry);
            }
            notes.entries[i] = null;
        }
        notes.size = 0;
    }

    private void takeTasks() {
        for (int i = 0; i < tasks.size; i++) {
            Entry entry = tasks.entries[i];
            tasks.entries[i] = null;
            if (entry == null) {
                continue;
            }
            if (tasks.kinds[i] == GONE) {
                rooms.takeOut(entry);
                continue;
            }
            // The key is counted even if its entry has gone: the document excepts the room alone.
            counts.add(entry.key);
            if (tasks.kinds[i] == CHANGED) {
                rooms.touch(entry);
            } else if (!entry.gone) {
                rooms.window.addLatest(entry);
            }
        }
        tasks.size = 0;
    }

    private void expire() {
        for (int left = rooms.size(); left > 0; left--) {
            Entry entry = rooms.firstOver(lives.time);
            if (entry == null) {
                return;
            }
            dropFromMap(entry, EXPIRED);
            rooms.takeOut(entry);
        }
    }

    /**
     * Entries that came by the spill are the last ones of probation, and nothing comes behind them
     * here: so the next candidate is always the one behind the candidate looked at before.
     */
    private void evict(Entry firstCandidate) {
        Entry candidate = firstCandidate;
        for (int left = rooms.size(); left > 0 && rooms.weight() > rooms.max; left--) {
            Entry victim = rooms.victim();
            if (victim == null) {
                return;
            }
            Entry loser = candidate == null ? victim : loserOf(candidate, victim);
            candidate = candidate == null ? null : candidate.later;
            evicted++;
            evictedWeight += loser.weight;
            dropFromMap(loser, EVICTED);
            rooms.takeOut(loser);
        }
    }

    private Entry loserOf(Entry candidate, Entry victim) {
        if (candidate == victim) {
            return victim;
        }
        int often = counts.leastOf(candidate.key);
        if (often > counts.leastOf(victim.key)) {
            return victim;
        }
        if (often <= SELDOM) {
            return candidate;
        }
        return nextDraw() % 128 == 0 ? victim : candidate;
    }

    private int nextDraw() {
        draw ^= draw << 13;
        draw ^= draw >>> 17;
        draw ^= draw << 5;
        return draw;
    }

    private void climbIfDue() {
        if (!climb.isDue()) {
            return;
        }
        rooms.changeWindow(climb.change());
        if (climb.up) {
            rooms.fillWindow();
        } else {
            rooms.spillWindow();
        }
        rooms.trimShielded();
    }

    /** One value under one key, from its first put until it goes; it is a link of its room's chain. */
    private static final class Entry {
        final int key;
        int value;
        int weight;
        /** Grows with each put, so that a reload knows whether it comes too late. */
        int edition;
        /** The end that being got does not move. */
        long fixedEnd;
        long end;
        boolean livesByTouch;
        boolean gone;
        Room room;
        Entry earlier;
        Entry later;

        Entry(int key) {
            this.key = key;
        }
    }

    /** A load (no entry) or a reload of that edition of an entry, on its way. */
    private static final class Way {
        final Entry entry;
        final int edition;

        Way(Entry entry, int edition) {
            this.entry = entry;
            this.edition = edition;
        }
    }

    /** TIME and the lives that all entries share. */
    private static final class Lives {
        final int write;
        final int touch;
        long time;

        Lives(int write, int touch) {
            this.write = write;
            this.touch = touch;
        }

        void begin(Entry entry, int own) {
            int life = own > 0 ? own : write;
            entry.fixedEnd = life > 0 ? time + life : NEVER;
            entry.livesByTouch = own <= 0 && touch > 0;
            prolong(entry);
        }

        void prolong(Entry entry) {
            entry.end = entry.livesByTouch ? Math.min(entry.fixedEnd, time + touch) : entry.fixedEnd;
        }

        boolean isOver(Entry entry) {
            return time >= entry.end;
        }
    }

    /** A read buffer. */
    private static final class Notes {
        private static final int MOST = 16;

        final Entry[] entries = new Entry[MOST];
        int size;
        int lost;

        void add(Entry entry) {
            if (size < MOST) {
                entries[size] = entry;
                size++;
            } else {
                lost++;
            }
        }
    }

    /** The write buffer. */
    private static final class Tasks {
        private static final int MOST = 8;

        final Entry[] entries = new Entry[MOST];
        final int[] kinds = new int[MOST];
        int size;

        /** Answers whether the buffer is full now. */
        boolean addUntilFull(int kind, Entry entry) {
            if (size < MOST) {
                entries[size] = entry;
                kinds[size] = kind;
                size++;
            }
            return size >= MOST;
        }
    }

    /** What was LISTENED, the first 500. */
    private static final class Log {
        private static final int MOST = 500;

        final int[] keys = new int[MOST];
        final int[] values = new int[MOST];
        final int[] whys = new int[MOST];
        int size;

        void add(Entry entry, int why) {
            if (size < MOST) {
                keys[size] = entry.key;
                values[size] = entry.value;
                whys[size] = why;
                size++;
            }
        }

        int told(int k, int what) {
            if (k < 0 || k >= size) {
                return NONE;
            }
            switch (what) {
                case 0: return keys[k];
                case 1: return values[k];
                case 2: return whys[k];
                default: return NONE;
            }
        }
    }

    /** How often keys were asked for: four rows of counts of four bits, eight to an int to be small. */
    private static final class Counts {
        private static final int[] ODD = {-1640531527, -2048144777, -1028477379, 668265263};
        private static final int ROWS = 4;
        private static final int LEAST_SIZE = 8;
        private static final int MOST_SIZE = 8192;
        private static final int MOST_COUNT = 15;
        private static final int LOW_BITS = 0x11111111;
        private static final int HALVED_BITS = 0x77777777;

        final int size;
        final int[] words;
        int added;

        Counts(int max) {
            int power = LEAST_SIZE;
            while (power < max && power < MOST_SIZE) {
                power *= 2;
            }
            size = power;
            words = new int[ROWS * power / 8];
        }

        void add(int key) {
            boolean some = false;
            for (int row = 0; row < ROWS; row++) {
                int place = placeOf(row, key);
                int shift = (place & 7) * 4;
                if ((words[place >>> 3] >>> shift & 15) < MOST_COUNT) {
                    words[place >>> 3] += 1 << shift;
                    some = true;
                }
            }
            if (some) {
                added++;
                if (added >= 10 * size) {
                    halve();
                }
            }
        }

        int leastOf(int key) {
            int least = MOST_COUNT;
            for (int row = 0; row < ROWS; row++) {
                int place = placeOf(row, key);
                least = Math.min(least, words[place >>> 3] >>> (place & 7) * 4 & 15);
            }
            return least;
        }

        int placeOf(int row, int key) {
            return row * size + ((key + 1) * ODD[row] >>> 7 & size - 1);
        }

        void halve() {
            int odd = 0;
            for (int i = 0; i < words.length; i++) {
                odd += Integer.bitCount(words[i] & LOW_BITS);
                words[i] = words[i] >>> 1 & HALVED_BITS;
            }
            added = (added - odd / 4) / 2;
        }
    }

    /** A chain of entries in order of how lately they were touched. */
    private static final class Room {
        Entry earliest;
        Entry latest;
        int weight;
        int size;

        void addLatest(Entry entry) {
            entry.room = this;
            entry.earlier = latest;
            entry.later = null;
            if (latest == null) {
                earliest = entry;
            } else {
                latest.later = entry;
            }
            latest = entry;
            weight += entry.weight;
            size++;
        }

        void cutOut(Entry entry) {
            if (entry.earlier == null) {
                earliest = entry.later;
            } else {
                entry.earlier.later = entry.later;
            }
            if (entry.later == null) {
                latest = entry.earlier;
            } else {
                entry.later.earlier = entry.earlier;
            }
            entry.room = null;
            entry.earlier = null;
            entry.later = null;
            weight -= entry.weight;
            size--;
        }

        int keyAt(int k) {
            if (k < 0 || k >= size) {
                return NONE;
            }
            int passed = 0;
            for (Entry entry = earliest; entry != null; entry = entry.later) {
                if (passed == k) {
                    return entry.key;
                }
                passed++;
            }
            return NONE;
        }

        /** Of the entries here that are over and of one found before, the one that goes first. */
        Entry firstOver(long time, Entry before) {
            Entry first = before;
            for (Entry entry = earliest; entry != null; entry = entry.later) {
                if (time >= entry.end && goesBefore(entry, first)) {
                    first = entry;
                }
            }
            return first;
        }

        static boolean goesBefore(Entry one, Entry other) {
            if (other == null || one.end != other.end) {
                return other == null || one.end < other.end;
            }
            return one.key < other.key;
        }
    }

    /** The window, probation, and protected (a word of the language, so: shielded). */
    private static final class Rooms {
        final int max;
        final Room window = new Room();
        final Room probation = new Room();
        final Room shielded = new Room();
        int windowLimit;

        Rooms(int max) {
            this.max = max;
            windowLimit = Math.max(1, max / 100);
        }

        int weight() {
            return window.weight + probation.weight + shielded.weight;
        }

        int size() {
            return window.size + probation.size + shielded.size;
        }

        void takeOut(Entry entry) {
            if (entry.room != null) {
                entry.room.cutOut(entry);
            }
        }

        void touch(Entry entry) {
            Room from = entry.room;
            if (from == null) {
                return;
            }
            from.cutOut(entry);
            Room to = from == probation ? shielded : from;
            to.addLatest(entry);
            trimShielded();
        }

        void trimShielded() {
            int limit = (max - windowLimit) * 4 / 5;
            for (int left = shielded.size; left > 0 && shielded.weight > limit; left--) {
                Entry entry = shielded.earliest;
                if (entry == null) {
                    return;
                }
                shielded.cutOut(entry);
                probation.addLatest(entry);
            }
        }

        /** Answers the first entry that had to leave the window, if one had to. */
        Entry spillWindow() {
            Entry first = window.weight > windowLimit ? window.earliest : null;
            for (int left = window.size; left > 0 && window.weight > windowLimit; left--) {
                moveEarliest(window, probation);
            }
            return first;
        }

        void fillWindow() {
            for (int left = probation.size + shielded.size; left > 0; left--) {
                Room from = probation.earliest != null ? probation : shielded;
                if (from.earliest == null || window.weight + from.earliest.weight > windowLimit) {
                    return;
                }
                moveEarliest(from, window);
            }
        }

        void moveEarliest(Room from, Room to) {
            Entry entry = from.earliest;
            if (entry != null) {
                from.cutOut(entry);
                to.addLatest(entry);
            }
        }

        void changeWindow(int change) {
            windowLimit = Math.max(1, Math.min(windowLimit + change, max - 1));
        }

        Entry victim() {
            if (probation.earliest != null) {
                return probation.earliest;
            }
            return shielded.earliest != null ? shielded.earliest : window.earliest;
        }

        Entry firstOver(long time) {
            Entry first = window.firstOver(time, null);
            first = probation.firstOver(time, first);
            return shielded.firstOver(time, first);
        }
    }

    /** Hits and misses, and which way the window's limit goes by them. */
    private static final class Climb {
        private static final int BIG_DIFFERENCE = 50;

        final int askedUntilDue;
        final int firstStep;
        int hits;
        int misses;
        int hitsBefore;
        int askedBefore;
        int rate;
        int step;
        boolean up = true;

        Climb(int max) {
            askedUntilDue = 10 * max;
            firstStep = Math.max(1, max / 16);
            step = firstStep;
        }

        boolean isDue() {
            return hits + misses - askedBefore >= askedUntilDue;
        }

        /** By how much the window's limit is to change now. */
        int change() {
            int asked = hits + misses - askedBefore;
            if (asked <= 0) {
                return 0;
            }
            int rateNow = 1000 * (hits - hitsBefore) / asked;
            if (rateNow < rate) {
                up = !up;
            }
            int change = up ? step : -step;
            boolean differs = Math.abs(rateNow - rate) >= BIG_DIFFERENCE;
            step = differs ? firstStep : Math.max(1, step * 63 / 64);
            rate = rateNow;
            hitsBefore = hits;
            askedBefore = hits + misses;
            return change;
        }
    }
}

/** Counts the answers that are not as due, and tells them under what was asked. */
final class Sheet {
    static final int NONE = WindowCache.NONE;

    static final int EXPLICIT = 0;
    static final int REPLACED = 1;
    static final int EXPIRED = 2;
    static final int EVICTED = 3;

    static final int WINDOW = 0;
    static final int PROBATION = 1;
    static final int PROTECTED = 2;

    static final int ENTRIES = 0;
    static final int OVER = 1;
    static final int IN_ROOMS = 2;
    static final int IN_WINDOW = 3;
    static final int IN_PROBATION = 4;
    static final int IN_PROTECTED = 5;
    static final int W = 6;
    static final int HITS = 7;
    static final int MISSES = 8;
    static final int FINISHES = 9;
    static final int FAILS = 10;
    static final int EVICTIONS = 11;
    static final int EVICTED_WEIGHT = 12;
    static final int NOTES = 13;
    static final int TASKS = 14;
    static final int ADDED = 15;
    static final int LOST = 16;
    static final int ON_THEIR_WAY = 17;
    static final int WHATS = 18;

    private static String asked = "";
    private static int wrong;

    private Sheet() {
    }

    interface Call {
        void run();
    }

    static void ask(String what) {
        asked = what;
    }

    static int wrong() {
        return wrong;
    }

    static void fault(String text) {
        wrong++;
        System.out.println(asked + ": " + text);
    }

    /** The end of a test's main method. */
    static void close() {
        System.out.println(wrong == 0 ? "all answers are as due" : wrong + " answers are not as due");
        if (wrong != 0) {
            System.exit(1);
        }
    }

    static void due(String call, long got, long want) {
        if (got != want) {
            fault(call + " answered " + got + ", due is " + want);
        }
    }

    static void due(String call, boolean got, boolean want) {
        if (got != want) {
            fault(call + " answered " + got + ", due is " + want);
        }
    }

    static void badArgument(String call, Call made) {
        dueThrow(call, made, "IllegalArgumentException");
    }

    static void badState(String call, Call made) {
        dueThrow(call, made, "IllegalStateException");
    }

    private static void dueThrow(String call, Call made, String want) {
        String got = "nothing";
        try {
            made.run();
        } catch (IllegalArgumentException | IllegalStateException e) {
            got = e.getClass().getSimpleName();
        }
        if (!got.equals(want)) {
            fault(call + " threw " + got + ", due is " + want);
        }
    }

    static void dueCount(Cache x, int what, int want) {
        due("count(" + what + ")", x.count(what), want);
    }

    static void dueLog(Cache x, int k, int key, int value, int why) {
        due("listened(" + k + ", 0)", x.listened(k, 0), key);
        due("listened(" + k + ", 1)", x.listened(k, 1), value);
        due("listened(" + k + ", 2)", x.listened(k, 2), why);
    }

    static void dueLogEnd(Cache x, int k) {
        due("listened(" + k + ", 0)", x.listened(k, 0), NONE);
    }

    static void dueRoom(Cache x, int room, int... keys) {
        for (int k = 0; k < keys.length; k++) {
            due("at(" + room + ", " + k + ")", x.at(room, k), keys[k]);
        }
        due("at(" + room + ", " + keys.length + ")", x.at(room, keys.length), NONE);
    }

    /** Each with ten times its key as value, weight 1 and no time of its own. */
    static void putAll(Cache x, int... keys) {
        for (int key : keys) {
            x.put(key, key * 10, 1, 0);
        }
    }

    static void getTimes(Cache x, int key, int times) {
        for (int i = 0; i < times; i++) {
            x.get(key);
        }
    }
}

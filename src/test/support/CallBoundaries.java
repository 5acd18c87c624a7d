import java.util.List;

/** The Terms on LISTENED and the constants, and the promises of the calls. */
final class CallBoundaries {
    private static final int MOST_INT = Integer.MAX_VALUE;
    private static final int LEAST_INT = Integer.MIN_VALUE;

    private CallBoundaries() {
    }

    static List<Held> all() {
        return List.of(
            new Held("LISTENED: each entry that goes, when it goes from the map: EXPLICIT by remove(), REPLACED (its value) when"
                + " another one is put over it or a reload comes, EXPIRED, EVICTED: in order.", CallBoundaries::whatIsListened),
            new Held("The constants: `NONE = -1`: None.", CallBoundaries::constants),
            new Held("MAX is max (1 .. 5000; 1 if less, 5000 if more);", CallBoundaries::endsOfMax),
            new Held("write, touch the lives (0 for none, or less).", CallBoundaries::noLives),
            new Held("The value of a key; NONE if there is no entry, or it is over (a MISS; else a HIT; neither for another key).",
                CallBoundaries::get),
            new Held("Whether there is an entry that is not over (that is no touch, no hit and no miss).", CallBoundaries::has),
            new Held("A value is put: true if there was an entry that was not over.", CallBoundaries::put),
            new Held("What own says: the time to live of its own, 0 for none.", CallBoundaries::putWithOwn),
            new Held("IllegalArgumentException: no such key, value below 0, weight not 1 .. 1000, or own below 0.",
                CallBoundaries::putRefused),
            new Held("An entry goes: its value; NONE if there was none, or it was over (that goes too, EXPIRED).",
                CallBoundaries::remove),
            new Held("As get(); but if there is none, a LOAD of the key begins, if nothing of it is on its way: -2 then.",
                CallBoundaries::load),
            new Held("IllegalArgumentException: no such key.", CallBoundaries::loadOfNoKey),
            new Held("IllegalStateException: a load or reload of it is on its way already (that is a MISS, too).",
                CallBoundaries::loadOnItsWay),
            new Held("A reload of a key begins: false if there is no entry that is not over, or a load or reload of it is on its way.",
                CallBoundaries::refresh),
            new Held("What is on its way of a key comes: a load is put (weight 1 .. 1000, no time of its own), if there is no entry"
                + " that is not over;", CallBoundaries::finishLoad),
            new Held("a reload replaces the value (put anew, with that weight, no time of its own) if the entry is the one that was"
                + " there when it began, has not been put over, and is not over.", CallBoundaries::finishReload),
            new Held("True if so.", CallBoundaries::finishedThoughEvictedAtOnce),
            new Held("IllegalStateException: there is none on its way.", CallBoundaries::finishNone),
            new Held("IllegalArgumentException (behind that): a value below 0, or weight not so; it stays on its way.",
                CallBoundaries::finishRefused),
            new Held("What is on its way fails. IllegalStateException: there is none.", CallBoundaries::fail),
            new Held("TIME becomes n more: TIME, or NONE if n is below 0 or TIME would be above 2^40.", CallBoundaries::advance),
            new Held("MAINTENANCE. How much all rooms have.", CallBoundaries::maintain),
            new Held("Entries in the map (0), those of them that are over (1), weight in the rooms (2), in the window (3), in"
                + " probation (4), in protected (5), W (6), hits (7), misses (8), calls of finish() that did not throw (9), of fail()"
                + " (10), entries EVICTED (11), their weight (12), notes (13), tasks (14), ADDED (15), notes lost (16), keys on their"
                + " way (17).", CallBoundaries::counts),
            new Held("NONE for another what.", CallBoundaries::noCount),
            new Held("How OFTEN a key was asked for, by the counts; NONE for another key.", CallBoundaries::often),
            new Held("Key k, the earliest first, of a room: 0 window, 1 probation, 2 protected; NONE if there is none such.",
                CallBoundaries::at),
            new Held("What was LISTENED, k from 0 on, as far as 500:", CallBoundaries::asFarAs500),
            new Held("its key (what 0), value (1), why (2: 0 EXPLICIT, 1 REPLACED, 2 EXPIRED, 3 EVICTED).", CallBoundaries::listened),
            new Held("NONE if there is none such, or for another what.", CallBoundaries::notListened));
    }

    private static void whatIsListened() {
        Cache x = new Cache(100, 10, 0);
        Sheet.putAll(x, 1, 2, 3);
        Sheet.dueLogEnd(x, 0);
        x.put(1, 11, 1, 0);
        Sheet.dueLog(x, 0, 1, 10, Sheet.REPLACED);
        x.refresh(1);
        x.finish(1, 12, 1);
        Sheet.dueLog(x, 1, 1, 11, Sheet.REPLACED);
        x.remove(1);
        Sheet.dueLog(x, 2, 1, 12, Sheet.EXPLICIT);
        x.remove(1);
        x.load(1);
        x.finish(1, 13, 1);
        Sheet.dueLogEnd(x, 3);
        x.maintain();
        x.refresh(1);
        x.put(1, 14, 1, 5);
        Sheet.dueLog(x, 3, 1, 13, Sheet.REPLACED);
        x.finish(1, 15, 1);
        Sheet.due("a reload that comes too late", x.listened(4, 0), Sheet.NONE);
        x.advance(10);
        Sheet.due("over, but there", x.listened(4, 0), Sheet.NONE);
        x.remove(3);
        Sheet.dueLog(x, 4, 3, 30, Sheet.EXPIRED);
        x.put(2, 21, 1, 0);
        Sheet.dueLog(x, 5, 2, 20, Sheet.EXPIRED);
        x.maintain();
        Sheet.dueLog(x, 6, 1, 14, Sheet.EXPIRED);
        x.put(5, 50, 1000, 0);
        Sheet.dueLogEnd(x, 7);
        x.maintain();
        Sheet.dueLog(x, 7, 2, 21, Sheet.EVICTED);
        Sheet.dueLog(x, 8, 5, 50, Sheet.EVICTED);
        Sheet.dueLogEnd(x, 9);
        listenedBeforeMaintenance();
    }

    /** The entry that goes by the eighth task goes before those that maintenance drives out. */
    private static void listenedBeforeMaintenance() {
        Cache x = new Cache(1, 0, 0);
        Sheet.putAll(x, 1, 2, 3, 4, 5, 6, 7);
        x.put(7, 71, 1, 0);
        Sheet.dueLog(x, 0, 7, 70, Sheet.REPLACED);
        Sheet.dueLog(x, 1, 1, 10, Sheet.EVICTED);
        Sheet.dueLog(x, 6, 6, 60, Sheet.EVICTED);
        Sheet.dueLogEnd(x, 7);
    }

    private static void constants() {
        Sheet.due("NONE", WindowCache.NONE, -1);
    }

    private static void endsOfMax() {
        for (int max : new int[] {LEAST_INT, -1, 0, 1, 2}) {
            Cache x = new Cache(max, 0, 0);
            Sheet.putAll(x, 1, 2, 3);
            Sheet.due("maintain() with max " + max, x.maintain(), max < 2 ? 1 : 2);
        }
        for (int max : new int[] {4998, 4999, 5000, 5001, MOST_INT}) {
            Cache x = new Cache(max, 0, 0);
            for (int key = 0; key < 4; key++) {
                x.put(key, 1, 1000, 0);
            }
            x.put(4, 1, 999, 0);
            Sheet.due("maintain() of 4999 with max " + max, x.maintain(), max < 4999 ? 3999 : 4999);
            x.put(4, 1, 1000, 0);
            Sheet.due("maintain() of 5000 with max " + max, x.maintain() == 5000, max >= 5000);
            Sheet.putAll(x, 5);
            Sheet.due("maintain() with one more and max " + max, x.maintain() <= 5000, true);
            Sheet.dueCount(x, Sheet.W, Math.min(max, 5000) / 100);
        }
    }

    private static void noLives() {
        for (int life : new int[] {LEAST_INT, -1, 0}) {
            Cache none = new Cache(10, life, life);
            Sheet.putAll(none, 1);
            none.get(1);
            none.advance(MOST_INT);
            Sheet.due("has(1) with lives of " + life, none.has(1), true);
            Cache write = new Cache(10, 5, life);
            Sheet.putAll(write, 1);
            write.advance(4);
            Sheet.due("has(1) before WRITE", write.has(1), true);
            write.advance(1);
            Sheet.due("has(1) at WRITE", write.has(1), false);
            Cache touch = new Cache(10, life, 5);
            Sheet.putAll(touch, 1);
            touch.advance(4);
            Sheet.due("get(1) before TOUCH", touch.get(1), 10);
            touch.advance(4);
            Sheet.due("has(1) before TOUCH", touch.has(1), true);
            touch.advance(1);
            Sheet.due("has(1) at TOUCH", touch.has(1), false);
        }
        for (int way = 0; way < 2; way++) {
            Cache brief = new Cache(10, way, 1 - way);
            Sheet.putAll(brief, 1);
            brief.advance(1);
            Sheet.due("has(1) with a life of 1", brief.has(1), false);
        }
        Cache longest = new Cache(10, MOST_INT, MOST_INT);
        Sheet.putAll(longest, 1);
        longest.advance(MOST_INT - 1);
        Sheet.due("has(1) before the longest life ends", longest.has(1), true);
        longest.advance(1);
        Sheet.due("has(1) behind the longest life", longest.has(1), false);
    }

    private static void dueAsked(Cache x, int hits, int misses) {
        Sheet.dueCount(x, Sheet.HITS, hits);
        Sheet.dueCount(x, Sheet.MISSES, misses);
    }

    private static void get() {
        Cache x = new Cache(10, 5, 0);
        Sheet.due("get(0) of none", x.get(0), Sheet.NONE);
        dueAsked(x, 0, 1);
        x.put(0, 0, 1, 0);
        x.put(999, MOST_INT, 1, 0);
        Sheet.due("get(0)", x.get(0), 0);
        Sheet.due("get(999)", x.get(999), MOST_INT);
        dueAsked(x, 2, 1);
        for (int key : new int[] {-1, 1000, LEAST_INT, MOST_INT}) {
            Sheet.due("get(" + key + ")", x.get(key), Sheet.NONE);
        }
        dueAsked(x, 2, 1);
        x.advance(4);
        Sheet.due("get(0) before its end", x.get(0), 0);
        dueAsked(x, 3, 1);
        x.advance(1);
        Sheet.due("get(0) at its end", x.get(0), Sheet.NONE);
        dueAsked(x, 3, 2);
        x.maintain();
        Sheet.due("get(0) behind maintenance", x.get(0), Sheet.NONE);
        dueAsked(x, 3, 3);
    }

    private static void has() {
        Cache x = new Cache(10, 0, 10);
        Sheet.due("has(1) of none", x.has(1), false);
        x.put(1, 0, 1, 0);
        x.put(2, 20, 1, 0);
        Sheet.due("has(1)", x.has(1), true);
        x.advance(9);
        Sheet.due("has(1) before its end", x.has(1), true);
        x.get(2);
        x.advance(1);
        Sheet.due("has(1) at its end, not touched", x.has(1), false);
        Sheet.due("has(2), touched by get", x.has(2), true);
        for (int key : new int[] {-1, 1000, LEAST_INT, MOST_INT}) {
            Sheet.due("has(" + key + ")", x.has(key), false);
        }
        dueAsked(x, 1, 0);
        Sheet.dueCount(x, Sheet.NOTES, 1);
        Sheet.dueCount(x, Sheet.ENTRIES, 2);
    }

    private static void put() {
        Cache x = new Cache(10, 5, 0);
        Sheet.due("put(1), none there", x.put(1, 10, 1, 0), false);
        Sheet.due("put(1), one there", x.put(1, 11, 1, 0), true);
        Sheet.due("get(1)", x.get(1), 11);
        x.advance(4);
        Sheet.due("put(1) before its end", x.put(1, 12, 1, 0), true);
        x.advance(5);
        Sheet.due("put(1) at its end", x.put(1, 13, 1, 0), false);
        Sheet.due("get(1)", x.get(1), 13);
        x.remove(1);
        Sheet.due("put(1), removed", x.put(1, 14, 1, 0), false);
        x.load(2);
        Sheet.due("put(2), a load on its way", x.put(2, 20, 1, 0), false);
        Cache eighth = new Cache(10, 0, 0);
        Sheet.putAll(eighth, 1, 2, 3, 4, 5, 6, 7);
        Sheet.due("put(7), evicted at once by the eighth task", eighth.put(7, 71, 11, 0), true);
        Sheet.due("has(7)", eighth.has(7), false);
        Cache fresh = new Cache(10, 0, 0);
        Sheet.putAll(fresh, 1, 2, 3, 4, 5, 6, 7);
        Sheet.due("put(8), evicted at once by the eighth task", fresh.put(8, 80, 11, 0), false);
        Sheet.due("has(8)", fresh.has(8), false);
    }

    private static void putWithOwn() {
        for (int own : new int[] {0, 1, 2, 7, 8, 9, MOST_INT}) {
            Cache x = new Cache(10, 8, 0);
            x.put(1, 10, 1, own);
            int life = own == 0 ? 8 : own;
            x.advance(life - 1);
            Sheet.due("has(1), own " + own + ", before its end", x.has(1), true);
            x.advance(1);
            Sheet.due("has(1), own " + own + ", at its end", x.has(1), false);
        }
        Cache none = new Cache(10, 0, 0);
        none.put(1, 10, 1, 0);
        none.advance(MOST_INT);
        Sheet.due("has(1) without own and without lives", none.has(1), true);
    }

    private static void putRefused() {
        Cache x = new Cache(5000, 0, 0);
        int[][] right = {{0, 0, 1, 0}, {999, MOST_INT, 1000, MOST_INT}};
        for (int[] one : right) {
            Sheet.due("put with " + one[0], x.put(one[0], one[1], one[2], one[3]), false);
        }
        int[][] wrong = {{-1, 1, 1, 0}, {1000, 1, 1, 0}, {LEAST_INT, 1, 1, 0}, {MOST_INT, 1, 1, 0}, {5, -1, 1, 0}, {5, LEAST_INT, 1, 0},
            {5, 1, 0, 0}, {5, 1, -1, 0}, {5, 1, 1001, 0}, {5, 1, LEAST_INT, 0}, {5, 1, MOST_INT, 0}, {5, 1, 1, -1}, {5, 1, 1, LEAST_INT}};
        for (int[] one : wrong) {
            Sheet.badArgument("put(" + one[0] + ", " + one[1] + ", " + one[2] + ", " + one[3] + ")",
                () -> x.put(one[0], one[1], one[2], one[3]));
        }
        Sheet.badArgument("put of a wrong value over an entry", () -> x.put(0, -1, 1, 0));
        Sheet.due("get(0)", x.get(0), 0);
        Sheet.dueCount(x, Sheet.ENTRIES, 2);
        Sheet.dueCount(x, Sheet.TASKS, 2);
        Sheet.dueLogEnd(x, 0);
    }

    private static void remove() {
        Cache x = new Cache(10, 5, 0);
        Sheet.due("remove(1) of none", x.remove(1), Sheet.NONE);
        for (int key : new int[] {-1, 1000, LEAST_INT, MOST_INT}) {
            Sheet.due("remove(" + key + ")", x.remove(key), Sheet.NONE);
        }
        Sheet.dueCount(x, Sheet.TASKS, 0);
        Sheet.dueLogEnd(x, 0);
        x.put(1, 0, 1, 0);
        Sheet.putAll(x, 2, 3);
        x.advance(4);
        Sheet.due("remove(1) before its end", x.remove(1), 0);
        Sheet.dueLog(x, 0, 1, 0, Sheet.EXPLICIT);
        Sheet.due("remove(1) again", x.remove(1), Sheet.NONE);
        Sheet.dueCount(x, Sheet.TASKS, 4);
        x.advance(1);
        Sheet.due("remove(2) at its end", x.remove(2), Sheet.NONE);
        Sheet.dueLog(x, 1, 2, 20, Sheet.EXPIRED);
        Sheet.dueLogEnd(x, 2);
        Sheet.dueCount(x, Sheet.ENTRIES, 1);
        Sheet.dueCount(x, Sheet.TASKS, 5);
        dueAsked(x, 0, 0);
        Cache eighth = new Cache(10, 0, 0);
        Sheet.putAll(eighth, 1, 2, 3, 4, 5, 6, 7);
        Sheet.due("remove(7), the eighth task", eighth.remove(7), 70);
    }

    private static void load() {
        Cache x = new Cache(10, 5, 0);
        Sheet.due("load(1) of none", x.load(1), -2);
        dueAsked(x, 0, 1);
        Sheet.dueCount(x, Sheet.ON_THEIR_WAY, 1);
        x.finish(1, 0, 1);
        Sheet.due("load(1), there", x.load(1), 0);
        dueAsked(x, 1, 1);
        Sheet.dueCount(x, Sheet.NOTES, 1);
        Sheet.dueCount(x, Sheet.ON_THEIR_WAY, 0);
        x.advance(4);
        Sheet.due("load(1) before its end", x.load(1), 0);
        x.advance(1);
        Sheet.due("load(1) at its end", x.load(1), -2);
        dueAsked(x, 2, 2);
        Sheet.dueCount(x, Sheet.ENTRIES, 1);
        x.fail(1);
        Sheet.due("load(1), nothing on its way any more", x.load(1), -2);
        Cache touch = new Cache(10, 0, 10);
        Sheet.putAll(touch, 1);
        touch.advance(9);
        Sheet.due("load(1), a touch", touch.load(1), 10);
        touch.advance(9);
        Sheet.due("has(1) behind that touch", touch.has(1), true);
        touch.refresh(1);
        Sheet.due("load(1), there, with a reload on its way", touch.load(1), 10);
    }

    private static void loadOfNoKey() {
        Cache x = new Cache(10, 0, 0);
        for (int key : new int[] {-1, 1000, LEAST_INT, MOST_INT}) {
            Sheet.badArgument("load(" + key + ")", () -> x.load(key));
        }
        dueAsked(x, 0, 0);
        Sheet.dueCount(x, Sheet.ON_THEIR_WAY, 0);
        Sheet.due("load(0)", x.load(0), -2);
        Sheet.due("load(999)", x.load(999), -2);
        dueAsked(x, 0, 2);
        Sheet.dueCount(x, Sheet.ON_THEIR_WAY, 2);
    }

    private static void loadOnItsWay() {
        Cache x = new Cache(10, 0, 0);
        x.load(1);
        Sheet.badState("load(1), a load on its way", () -> x.load(1));
        dueAsked(x, 0, 2);
        Sheet.dueCount(x, Sheet.ON_THEIR_WAY, 1);
        Sheet.due("load(2), another key", x.load(2), -2);
        x.fail(1);
        Sheet.due("load(1), failed", x.load(1), -2);
        x.finish(1, 10, 1);
        x.refresh(1);
        Sheet.due("load(1), a reload on its way, the entry there", x.load(1), 10);
        dueAsked(x, 1, 4);
        x.remove(1);
        Sheet.badState("load(1), a reload on its way, the entry gone", () -> x.load(1));
        dueAsked(x, 1, 5);
        x.finish(1, 11, 1);
        Sheet.due("load(1), the reload came too late", x.load(1), -2);
        dueAsked(x, 1, 6);
    }

    private static void refresh() {
        Cache x = new Cache(10, 0, 5);
        Sheet.due("refresh(1) of none", x.refresh(1), false);
        for (int key : new int[] {-1, 1000, LEAST_INT, MOST_INT}) {
            Sheet.due("refresh(" + key + ")", x.refresh(key), false);
        }
        Sheet.dueCount(x, Sheet.ON_THEIR_WAY, 0);
        Sheet.putAll(x, 0, 1, 999);
        Sheet.due("refresh(1)", x.refresh(1), true);
        Sheet.due("refresh(1), a reload on its way", x.refresh(1), false);
        Sheet.due("refresh(0)", x.refresh(0), true);
        Sheet.due("refresh(999)", x.refresh(999), true);
        Sheet.dueCount(x, Sheet.ON_THEIR_WAY, 3);
        x.load(2);
        Sheet.putAll(x, 2);
        Sheet.due("refresh(2), a load on its way", x.refresh(2), false);
        x.fail(2);
        Sheet.due("refresh(2), failed", x.refresh(2), true);
        x.fail(1);
        x.advance(4);
        Sheet.due("refresh(1) before its end", x.refresh(1), true);
        x.fail(1);
        x.advance(1);
        Sheet.due("refresh(1) at its end, no touch before", x.refresh(1), false);
        dueAsked(x, 0, 1);
        Sheet.dueCount(x, Sheet.NOTES, 0);
    }

    private static void finishLoad() {
        Cache x = new Cache(5000, 5, 0);
        x.load(1);
        x.load(2);
        Sheet.due("finish(1), weight 1", x.finish(1, 0, 1), true);
        Sheet.due("finish(2), weight 1000", x.finish(2, MOST_INT, 1000), true);
        Sheet.due("get(1)", x.get(1), 0);
        Sheet.due("get(2)", x.get(2), MOST_INT);
        Sheet.dueCount(x, Sheet.TASKS, 2);
        Sheet.due("maintain()", x.maintain(), 1001);
        Sheet.dueCount(x, Sheet.ON_THEIR_WAY, 0);
        x.advance(4);
        Sheet.due("has(1) before WRITE", x.has(1), true);
        x.advance(1);
        Sheet.due("has(1) at WRITE", x.has(1), false);
        Cache there = new Cache(10, 5, 0);
        there.load(1);
        there.load(2);
        Sheet.putAll(there, 1, 2);
        there.advance(4);
        Sheet.due("finish(1), one there that is not over", there.finish(1, 11, 1), false);
        Sheet.due("get(1)", there.get(1), 10);
        Sheet.dueCount(there, Sheet.FINISHES, 1);
        Sheet.dueCount(there, Sheet.ON_THEIR_WAY, 1);
        Sheet.dueCount(there, Sheet.TASKS, 2);
        there.advance(1);
        Sheet.due("finish(2), one there that is over", there.finish(2, 21, 1), true);
        Sheet.dueLog(there, 0, 2, 20, Sheet.EXPIRED);
        Sheet.due("get(2)", there.get(2), 21);
        Sheet.dueCount(there, Sheet.TASKS, 4);
        Sheet.dueCount(there, Sheet.ON_THEIR_WAY, 0);
    }

    private static void finishReload() {
        Cache x = new Cache(5000, 20, 0);
        x.put(1, 10, 1, 100);
        x.maintain();
        x.refresh(1);
        x.advance(5);
        x.get(1);
        Sheet.due("finish(1), the same entry", x.finish(1, 0, 1000), true);
        Sheet.due("get(1)", x.get(1), 0);
        Sheet.dueCount(x, Sheet.IN_ROOMS, 1000);
        Sheet.dueCount(x, Sheet.TASKS, 1);
        Sheet.dueLog(x, 0, 1, 10, Sheet.REPLACED);
        x.advance(19);
        Sheet.due("has(1) before WRITE behind the reload", x.has(1), true);
        x.advance(1);
        Sheet.due("has(1) at WRITE behind the reload", x.has(1), false);
        reloadTooLate();
        reloadAtTheEnd();
    }

    private static void reloadTooLate() {
        Cache x = new Cache(10, 0, 0);
        Sheet.putAll(x, 1, 2, 3);
        x.refresh(1);
        x.refresh(2);
        x.refresh(3);
        x.put(1, 11, 1, 0);
        x.remove(2);
        x.remove(3);
        x.put(3, 31, 1, 0);
        Sheet.due("finish(1), put over", x.finish(1, 12, 1), false);
        Sheet.due("finish(2), gone", x.finish(2, 22, 1), false);
        Sheet.due("finish(3), another one", x.finish(3, 32, 1), false);
        Sheet.due("get(1)", x.get(1), 11);
        Sheet.due("has(2)", x.has(2), false);
        Sheet.due("get(3)", x.get(3), 31);
        Sheet.dueCount(x, Sheet.FINISHES, 3);
        Sheet.dueCount(x, Sheet.ON_THEIR_WAY, 0);
        Sheet.dueCount(x, Sheet.TASKS, 7);
        x.refresh(1);
        Sheet.due("finish(1), begun again", x.finish(1, 13, 1), true);
    }

    private static void reloadAtTheEnd() {
        for (int time = 4; time <= 5; time++) {
            Cache x = new Cache(10, 5, 0);
            Sheet.putAll(x, 1);
            x.refresh(1);
            x.advance(time);
            Sheet.due("finish(1) at " + time + ", WRITE 5", x.finish(1, 11, 1), time < 5);
            Sheet.due("has(1)", x.has(1), time < 5);
            Sheet.dueCount(x, Sheet.OVER, time < 5 ? 0 : 1);
            Sheet.dueCount(x, Sheet.TASKS, time < 5 ? 2 : 1);
            Sheet.dueCount(x, Sheet.FINISHES, 1);
        }
    }

    /** What came is true, even if the maintenance that it brings has driven it out again. */
    private static void finishedThoughEvictedAtOnce() {
        Cache load = new Cache(10, 0, 0);
        Sheet.putAll(load, 1, 2, 3, 4, 5, 6, 7);
        load.load(8);
        Sheet.due("finish(8), the eighth task, too heavy", load.finish(8, 80, 11), true);
        Sheet.due("has(8)", load.has(8), false);
        Cache reload = new Cache(10, 0, 0);
        Sheet.putAll(reload, 1, 2, 3, 4, 5, 6, 7);
        reload.refresh(7);
        Sheet.due("finish(7), the eighth task, too heavy", reload.finish(7, 71, 11), true);
        Sheet.due("has(7)", reload.has(7), false);
        Cache neither = new Cache(10, 0, 0);
        neither.load(1);
        Sheet.putAll(neither, 1);
        Sheet.due("finish(1), one there", neither.finish(1, 11, 1), false);
    }

    private static void finishNone() {
        Cache x = new Cache(10, 0, 0);
        for (int key : new int[] {-1, 0, 999, 1000, LEAST_INT, MOST_INT}) {
            Sheet.badState("finish(" + key + ")", () -> x.finish(key, 1, 1));
        }
        Sheet.putAll(x, 1);
        Sheet.badState("finish(1), there, nothing on its way", () -> x.finish(1, 11, 1));
        x.load(2);
        Sheet.badState("finish(1), another key on its way", () -> x.finish(1, 11, 1));
        x.finish(2, 20, 1);
        Sheet.badState("finish(2) again", () -> x.finish(2, 21, 1));
        x.refresh(2);
        x.fail(2);
        Sheet.badState("finish(2), failed", () -> x.finish(2, 21, 1));
        Sheet.due("get(1)", x.get(1), 10);
        Sheet.due("get(2)", x.get(2), 20);
        Sheet.dueCount(x, Sheet.FINISHES, 1);
    }

    private static void finishRefused() {
        Cache x = new Cache(10, 0, 0);
        int[][] wrong = {{-1, 1}, {LEAST_INT, 1}, {1, 0}, {1, -1}, {1, 1001}, {1, LEAST_INT}, {1, MOST_INT}};
        for (int[] one : wrong) {
            Sheet.badState("finish, nothing on its way", () -> x.finish(1, one[0], one[1]));
        }
        Sheet.badState("finish of no key", () -> x.finish(-1, -1, 0));
        x.load(1);
        for (int[] one : wrong) {
            Sheet.badArgument("finish(1, " + one[0] + ", " + one[1] + ")", () -> x.finish(1, one[0], one[1]));
        }
        Sheet.dueCount(x, Sheet.ON_THEIR_WAY, 1);
        Sheet.dueCount(x, Sheet.FINISHES, 0);
        Sheet.due("finish(1)", x.finish(1, 0, 1000), true);
        x.refresh(1);
        for (int[] one : wrong) {
            Sheet.badArgument("finish(1, " + one[0] + ", " + one[1] + ")", () -> x.finish(1, one[0], one[1]));
        }
        Sheet.dueCount(x, Sheet.ON_THEIR_WAY, 1);
        Sheet.due("finish(1)", x.finish(1, MOST_INT, 1), true);
        Sheet.dueCount(x, Sheet.FINISHES, 2);
    }

    private static void fail() {
        Cache x = new Cache(10, 0, 0);
        for (int key : new int[] {-1, 0, 999, 1000, LEAST_INT, MOST_INT}) {
            Sheet.badState("fail(" + key + ")", () -> x.fail(key));
        }
        Sheet.dueCount(x, Sheet.FAILS, 0);
        x.load(1);
        Sheet.badState("fail(2), another key on its way", () -> x.fail(2));
        x.fail(1);
        Sheet.badState("fail(1) again", () -> x.fail(1));
        Sheet.due("has(1)", x.has(1), false);
        Sheet.dueCount(x, Sheet.FAILS, 1);
        Sheet.dueCount(x, Sheet.ON_THEIR_WAY, 0);
        Sheet.putAll(x, 1);
        x.refresh(1);
        x.fail(1);
        Sheet.due("get(1)", x.get(1), 10);
        Sheet.badState("finish(1), failed", () -> x.finish(1, 11, 1));
        Sheet.dueCount(x, Sheet.FAILS, 2);
        Sheet.dueLogEnd(x, 0);
    }

    /**
     * 512 times the most int is 2^40 - 512: no object that is used for 512 calls comes above 2^40, so
     * that side of it can't be asked for; the nearest that can be is.
     */
    private static void advance() {
        Cache x = new Cache(10, 0, 0);
        Sheet.due("advance(0)", x.advance(0), 0);
        Sheet.due("advance(1)", x.advance(1), 1);
        Sheet.due("advance(-1)", x.advance(-1), Sheet.NONE);
        Sheet.due("advance(least)", x.advance(LEAST_INT), Sheet.NONE);
        Sheet.due("advance(0)", x.advance(0), 1);
        Cache far = new Cache(10, 0, 0);
        for (int i = 1; i <= Cache.MOST_CALLS; i++) {
            Sheet.due("advance(most), call " + i, far.advance(MOST_INT), (long) i * MOST_INT);
        }
    }

    private static void maintain() {
        Cache x = new Cache(10, 5, 0);
        Sheet.due("maintain() of a new one", x.maintain(), 0);
        x.put(1, 10, 4, 0);
        x.put(2, 20, 5, 0);
        Sheet.dueCount(x, Sheet.IN_ROOMS, 0);
        Sheet.due("maintain()", x.maintain(), 9);
        Sheet.putAll(x, 3);
        Sheet.due("maintain(), full", x.maintain(), 10);
        Sheet.due("maintain() again", x.maintain(), 10);
        x.remove(1);
        Sheet.due("maintain(), one gone", x.maintain(), 6);
        x.get(2);
        x.maintain();
        Sheet.due("maintain(), one in protected", x.maintain(), 6);
        Sheet.dueCount(x, Sheet.IN_PROTECTED, 5);
        x.advance(5);
        Sheet.due("maintain(), all over", x.maintain(), 0);
        Sheet.dueCount(x, Sheet.TASKS, 0);
        Sheet.dueCount(x, Sheet.NOTES, 0);
    }

    private static void counts() {
        Cache x = new Cache(10, 0, 0);
        dueCounts(x, 0, 0, 0, 0, 0, 0, 1, 0, 0, 0, 0, 0, 0, 0, 0, 0, 0, 0);
        x.put(1, 10, 2, 0);
        x.put(2, 20, 3, 4);
        x.put(3, 30, 1, 4);
        dueCounts(x, 3, 0, 0, 0, 0, 0, 1, 0, 0, 0, 0, 0, 0, 0, 3, 0, 0, 0);
        x.maintain();
        dueCounts(x, 3, 0, 6, 1, 5, 0, 1, 0, 0, 0, 0, 0, 0, 0, 0, 3, 0, 0);
        x.get(1);
        x.get(900);
        dueCounts(x, 3, 0, 6, 1, 5, 0, 1, 1, 1, 0, 0, 0, 0, 1, 0, 3, 0, 0);
        x.maintain();
        x.advance(4);
        dueCounts(x, 3, 2, 6, 1, 3, 2, 1, 1, 1, 0, 0, 0, 0, 0, 0, 4, 0, 0);
        x.load(50);
        x.load(51);
        x.load(52);
        x.fail(50);
        x.finish(51, 510, 1);
        dueCounts(x, 4, 2, 6, 1, 3, 2, 1, 1, 4, 1, 1, 0, 0, 0, 1, 4, 0, 1);
        x.put(4, 40, 9, 0);
        x.maintain();
        // 51 and 4 are victims and candidates at once: both go.
        dueCounts(x, 1, 0, 2, 0, 0, 2, 1, 1, 4, 1, 1, 2, 10, 0, 0, 6, 0, 1);
        Sheet.getTimes(x, 1, 18);
        dueCounts(x, 1, 0, 2, 0, 0, 2, 1, 19, 4, 1, 1, 2, 10, 16, 0, 6, 2, 1);
    }

    private static void dueCounts(Cache x, int... want) {
        for (int what = 0; what < want.length; what++) {
            Sheet.dueCount(x, what, want[what]);
        }
    }

    private static void noCount() {
        Cache x = new Cache(10, 0, 0);
        for (int what : new int[] {-1, 18, 19, LEAST_INT, MOST_INT}) {
            Sheet.dueCount(x, what, Sheet.NONE);
        }
        Sheet.dueCount(x, 0, 0);
        Sheet.dueCount(x, 17, 0);
    }

    private static void often() {
        Cache x = new Cache(10, 0, 0);
        for (int key : new int[] {-1, 1000, LEAST_INT, MOST_INT}) {
            Sheet.due("often(" + key + ")", x.often(key), Sheet.NONE);
        }
        Sheet.due("often(0)", x.often(0), 0);
        Sheet.due("often(999)", x.often(999), 0);
        Sheet.putAll(x, 0, 999);
        Sheet.due("often(0) before maintenance", x.often(0), 0);
        x.maintain();
        Sheet.due("often(0)", x.often(0), 1);
        Sheet.due("often(999)", x.often(999), 1);
        x.remove(999);
        x.maintain();
        Sheet.due("often(999), gone", x.often(999), 1);
    }

    private static void at() {
        Cache x = new Cache(300, 0, 0);
        for (int room = 0; room < 3; room++) {
            Sheet.dueRoom(x, room);
        }
        Sheet.putAll(x, 1, 2, 3, 4, 5, 6, 7);
        Sheet.dueRoom(x, Sheet.WINDOW);
        x.maintain();
        x.get(4);
        x.get(2);
        x.maintain();
        Sheet.dueRoom(x, Sheet.WINDOW, 5, 6, 7);
        Sheet.dueRoom(x, Sheet.PROBATION, 1, 3);
        Sheet.dueRoom(x, Sheet.PROTECTED, 4, 2);
        for (int room = 0; room < 3; room++) {
            for (int k : new int[] {-1, 3, LEAST_INT, MOST_INT}) {
                Sheet.due("at(" + room + ", " + k + ")", x.at(room, k), Sheet.NONE);
            }
        }
        for (int room : new int[] {-1, 3, LEAST_INT, MOST_INT}) {
            Sheet.due("at(" + room + ", 0)", x.at(room, 0), Sheet.NONE);
        }
    }

    /** Read as: the first 500, so that k 499 is the last. */
    private static void asFarAs500() {
        Cache x = new Cache(10, 0, 0);
        for (int value = 0; value <= 499; value++) {
            x.put(3, value, 1, 0);
        }
        Sheet.due("listened(498, 1)", x.listened(498, 1), 498);
        Sheet.due("listened(499, 1), not there yet", x.listened(499, 1), Sheet.NONE);
        x.put(3, 500, 1, 0);
        x.put(3, 501, 1, 0);
        x.put(3, 502, 1, 0);
        Sheet.due("listened(0, 1)", x.listened(0, 1), 0);
        Sheet.due("listened(499, 1)", x.listened(499, 1), 499);
        Sheet.due("listened(500, 1)", x.listened(500, 1), Sheet.NONE);
        Sheet.due("listened(501, 1)", x.listened(501, 1), Sheet.NONE);
    }

    private static void listened() {
        Cache x = new Cache(1, 5, 0);
        x.put(1, 10, 1, 0);
        x.put(1, 11, 1, 0);
        x.remove(1);
        Sheet.putAll(x, 2, 3);
        x.maintain();
        x.advance(5);
        x.maintain();
        Sheet.dueLog(x, 0, 1, 10, 1);
        Sheet.dueLog(x, 1, 1, 11, 0);
        Sheet.dueLog(x, 2, 2, 20, 3);
        Sheet.dueLog(x, 3, 3, 30, 2);
        Sheet.dueLogEnd(x, 4);
    }

    private static void notListened() {
        Cache x = new Cache(10, 0, 0);
        Sheet.dueLogEnd(x, 0);
        Sheet.putAll(x, 1);
        x.remove(1);
        for (int what = 0; what <= 2; what++) {
            Sheet.due("listened(0, " + what + ")", x.listened(0, what) != Sheet.NONE, true);
            for (int k : new int[] {-1, 1, 499, 500, LEAST_INT, MOST_INT}) {
                Sheet.due("listened(" + k + ", " + what + ")", x.listened(k, what), Sheet.NONE);
            }
        }
        for (int what : new int[] {-1, 3, LEAST_INT, MOST_INT}) {
            Sheet.due("listened(0, " + what + ")", x.listened(0, what), Sheet.NONE);
        }
    }
}

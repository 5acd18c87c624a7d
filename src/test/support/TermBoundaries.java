import java.util.List;

/** "What it is" and the Terms up to the buffers: keys, weights, lives, ends, notes, tasks. */
final class TermBoundaries {
    private static final int MOST_INT = Integer.MAX_VALUE;

    private TermBoundaries() {
    }

    static List<Held> all() {
        return List.of(
            new Held("An object is used for at most 512 calls after it has been made; what later calls answer is free.",
                TermBoundaries::call512),
            new Held("KEYS are 0 .. 999.", TermBoundaries::keys),
            new Held("MAX is the most weight.", TermBoundaries::mostWeight),
            new Held("TIME is a long, 0 at first.", TermBoundaries::timeIsLong),
            new Held("LIFE: so long a value lives behind it was put (WRITE), or behind it was put or got (TOUCH); 0: no end.",
                TermBoundaries::life),
            new Held("A value that is put may have a time to live of its own, which comes in place of both.",
                TermBoundaries::ownInPlaceOfBoth),
            new Held("AN ENTRY has a key, a value, a weight (1 .. 1000),", TermBoundaries::weightsOfEntries),
            new Held("and an END (none without a life): TIME when it was put and its own time, or WRITE, or TIME when it was put or"
                + " got latest and TOUCH;", TermBoundaries::ends),
            new Held("the earlier one, if both WRITE and TOUCH are told.", TermBoundaries::earlierEnd),
            new Held("It is OVER from its end on.", TermBoundaries::overFromItsEnd),
            new Held("ENTRIES that are over are not seen any more, though they lie there until MAINTENANCE.",
                TermBoundaries::overButThere),
            new Held("When an entry is got, it is noted in the READ BUFFER, one for even keys and one for odd ones, of 16 notes each;"
                + " with 16 there the note is lost.", TermBoundaries::readBuffers),
            new Held("Each entry that is put or goes by remove(), or is put anew, makes a TASK: NEW, CHANGED, GONE, in the WRITE"
                + " BUFFER; with the eighth MAINTENANCE comes at once.", TermBoundaries::eighthTask),
            new Held("(A value put over an entry that is over: that one goes first, EXPIRED, GONE, with MAINTENANCE if it is the"
                + " eighth; then a new one comes, NEW.)", TermBoundaries::putOverOneThatIsOver),
            new Held("Notes and tasks are of that very entry, not of another one that has the key later.",
                TermBoundaries::ofThatVeryEntry));
    }

    /** The other side, call 513, is free: nothing can be asked of it. */
    private static void call512() {
        Cache got = new Cache(10, 0, 0);
        Sheet.putAll(got, 1);
        Sheet.getTimes(got, 1, 510);
        Sheet.due("get(1), call 512", got.get(1), 10);
        Cache put = new Cache(5000, 0, 0);
        for (int key = 0; key < 511; key++) {
            put.put(key, 1, 1, 0);
        }
        Sheet.due("entries, call 512", put.count(Sheet.ENTRIES), 511);
        Cache loaded = new Cache(10, 0, 0);
        for (int key = 0; key < 511; key++) {
            loaded.load(key);
        }
        Sheet.due("load(511), call 512", loaded.load(511), -2);
        Cache missed = new Cache(10, 0, 0);
        Sheet.getTimes(missed, 1, 511);
        Sheet.due("misses, call 512", missed.count(Sheet.MISSES), 511);
    }

    private static void keys() {
        for (int key : new int[] {0, 999}) {
            String of = " of key " + key;
            Cache x = new Cache(10, 0, 0);
            Sheet.due("load" + of, x.load(key), -2);
            Sheet.due("finish" + of, x.finish(key, 5, 1), true);
            Sheet.due("get" + of, x.get(key), 5);
            Sheet.due("has" + of, x.has(key), true);
            Sheet.due("put" + of, x.put(key, 6, 1, 0), true);
            x.maintain();
            Sheet.due("often" + of, x.often(key), 2);
            Sheet.due("refresh" + of, x.refresh(key), true);
            x.fail(key);
            Sheet.due("remove" + of, x.remove(key), 6);
        }
        for (int key : new int[] {-1, 1000, Integer.MIN_VALUE, MOST_INT}) {
            noKey(key);
        }
    }

    private static void noKey(int key) {
        String of = " of key " + key;
        Cache x = new Cache(10, 0, 0);
        Sheet.badArgument("load" + of, () -> x.load(key));
        Sheet.badArgument("put" + of, () -> x.put(key, 6, 1, 0));
        Sheet.badState("finish" + of, () -> x.finish(key, 5, 1));
        Sheet.badState("fail" + of, () -> x.fail(key));
        Sheet.due("get" + of, x.get(key), Sheet.NONE);
        Sheet.due("has" + of, x.has(key), false);
        Sheet.due("often" + of, x.often(key), Sheet.NONE);
        Sheet.due("refresh" + of, x.refresh(key), false);
        Sheet.due("remove" + of, x.remove(key), Sheet.NONE);
        for (int what = 0; what < Sheet.WHATS; what++) {
            Sheet.dueCount(x, what, what == Sheet.W ? 1 : 0);
        }
    }

    private static void mostWeight() {
        Cache x = new Cache(5, 0, 0);
        Sheet.putAll(x, 1, 2, 3, 4);
        Sheet.due("maintain() with 4", x.maintain(), 4);
        Sheet.putAll(x, 5);
        Sheet.due("maintain() with 5", x.maintain(), 5);
        Sheet.dueCount(x, Sheet.EVICTIONS, 0);
        Sheet.putAll(x, 6);
        Sheet.due("maintain() with 6", x.maintain(), 5);
        Sheet.dueCount(x, Sheet.EVICTIONS, 1);
        Cache heavy = new Cache(5, 0, 0);
        heavy.put(1, 10, 5, 0);
        Sheet.due("maintain() with one of 5", heavy.maintain(), 5);
        Cache heavier = new Cache(5, 0, 0);
        heavier.put(1, 10, 6, 0);
        Sheet.due("maintain() with one of 6", heavier.maintain(), 0);
    }

    private static void timeIsLong() {
        Cache x = new Cache(10, 0, 0);
        Sheet.due("TIME at first", x.advance(0), 0);
        Sheet.due("the most int", x.advance(MOST_INT), MOST_INT);
        x.put(1, 10, 1, 1);
        x.put(2, 20, 1, 2);
        x.put(3, 30, 1, MOST_INT);
        Sheet.due("has(1), an end above the ints", x.has(1), true);
        Sheet.due("one above the ints", x.advance(1), MOST_INT + 1L);
        Sheet.due("has(1) at its end", x.has(1), false);
        Sheet.due("has(2) before its end", x.has(2), true);
        Sheet.due("2^32 - 3", x.advance(MOST_INT - 2), (1L << 32) - 3);
        Sheet.due("has(3) before its end", x.has(3), true);
        Sheet.due("2^32 - 2", x.advance(1), (1L << 32) - 2);
        Sheet.due("has(3) at its end", x.has(3), false);
        Sheet.due("2^32 + 1", x.advance(3), (1L << 32) + 1);
    }

    private static void life() {
        Cache write = new Cache(10, 10, 0);
        Sheet.putAll(write, 1);
        write.advance(9);
        Sheet.due("get(1) at 9, WRITE 10", write.get(1), 10);
        write.advance(1);
        Sheet.due("has(1) at 10, WRITE 10, got at 9", write.has(1), false);
        Cache touch = new Cache(10, 0, 10);
        Sheet.putAll(touch, 1, 2);
        touch.advance(9);
        Sheet.due("get(1) at 9, TOUCH 10", touch.get(1), 10);
        touch.advance(1);
        Sheet.due("has(2) at 10, TOUCH 10, put at 0", touch.has(2), false);
        touch.advance(8);
        Sheet.due("has(1) at 18, TOUCH 10, got at 9", touch.has(1), true);
        touch.advance(1);
        Sheet.due("has(1) at 19, TOUCH 10, got at 9", touch.has(1), false);
        for (int way = 0; way < 2; way++) {
            Cache brief = new Cache(10, way, 1 - way);
            Sheet.putAll(brief, 1);
            Sheet.due("has(1) with a life of 1", brief.has(1), true);
            brief.advance(1);
            Sheet.due("has(1) behind a life of 1", brief.has(1), false);
        }
        Cache endless = new Cache(10, 0, 0);
        Sheet.putAll(endless, 1);
        for (int i = 0; i < 500; i++) {
            endless.advance(MOST_INT);
        }
        Sheet.due("has(1) with lives of 0", endless.has(1), true);
    }

    private static void ownInPlaceOfBoth() {
        Cache x = new Cache(10, 20, 10);
        x.put(1, 10, 1, 30);
        x.put(2, 20, 1, 5);
        x.put(3, 30, 1, 0);
        x.advance(4);
        Sheet.due("get(2) before its own end", x.get(2), 20);
        x.advance(1);
        Sheet.due("has(2) at its own end, before both", x.has(2), false);
        x.advance(4);
        Sheet.due("has(3) without own, before TOUCH", x.has(3), true);
        x.advance(1);
        Sheet.due("has(3) without own, at TOUCH", x.has(3), false);
        Sheet.due("has(1), own, at TOUCH", x.has(1), true);
        x.advance(19);
        Sheet.due("get(1), own, behind both, before its end", x.get(1), 10);
        x.advance(1);
        Sheet.due("has(1) at its own end, got before", x.has(1), false);
        Cache y = new Cache(10, 20, 0);
        y.put(1, 10, 1, 5);
        y.put(1, 11, 1, 0);
        y.advance(19);
        Sheet.due("has(1) put anew without own", y.has(1), true);
        y.advance(1);
        Sheet.due("has(1) at WRITE", y.has(1), false);
    }

    private static void weightsOfEntries() {
        Cache x = new Cache(5000, 0, 0);
        x.put(1, 10, 1, 0);
        Sheet.due("weight 1", x.maintain(), 1);
        x.put(2, 20, 1000, 0);
        Sheet.due("weight 1000", x.maintain(), 1001);
        Sheet.badArgument("weight 0", () -> x.put(3, 30, 0, 0));
        Sheet.badArgument("weight 1001", () -> x.put(3, 30, 1001, 0));
        Sheet.badArgument("least weight", () -> x.put(3, 30, Integer.MIN_VALUE, 0));
        Sheet.badArgument("most weight", () -> x.put(3, 30, MOST_INT, 0));
        Sheet.due("maintain() behind wrong weights", x.maintain(), 1001);
    }

    private static void ends() {
        Cache none = new Cache(10, 0, 0);
        Sheet.putAll(none, 1);
        none.put(2, 20, 1, 3);
        none.advance(2);
        Sheet.due("has(2) before its own end", none.has(2), true);
        none.advance(1);
        Sheet.due("has(2) at its own end", none.has(2), false);
        none.advance(MOST_INT);
        Sheet.due("has(1) without a life", none.has(1), true);
        Cache write = new Cache(10, 10, 0);
        write.advance(5);
        Sheet.putAll(write, 1);
        write.advance(9);
        Sheet.due("has(1) at 14, put at 5", write.has(1), true);
        Sheet.putAll(write, 1);
        write.advance(9);
        Sheet.due("has(1) at 23, put anew at 14", write.has(1), true);
        write.advance(1);
        Sheet.due("has(1) at 24, put anew at 14", write.has(1), false);
        Cache touch = new Cache(10, 0, 10);
        Sheet.putAll(touch, 1, 2);
        touch.advance(4);
        touch.get(1);
        Sheet.putAll(touch, 2);
        touch.advance(4);
        touch.get(1);
        touch.advance(5);
        Sheet.due("has(2) at 13, put anew at 4", touch.has(2), true);
        touch.advance(1);
        Sheet.due("has(2) at 14, put anew at 4", touch.has(2), false);
        touch.advance(3);
        Sheet.due("has(1) at 17, got at 4 and 8", touch.has(1), true);
        touch.advance(1);
        Sheet.due("has(1) at 18, got at 4 and 8", touch.has(1), false);
    }

    private static void earlierEnd() {
        Cache writeEarlier = new Cache(10, 15, 10);
        Sheet.putAll(writeEarlier, 1);
        writeEarlier.advance(9);
        writeEarlier.get(1);
        writeEarlier.advance(5);
        Sheet.due("has(1) at 14, WRITE 15, TOUCH until 19", writeEarlier.has(1), true);
        writeEarlier.advance(1);
        Sheet.due("has(1) at 15, WRITE 15, TOUCH until 19", writeEarlier.has(1), false);
        Cache touchEarlier = new Cache(10, 15, 10);
        Sheet.putAll(touchEarlier, 1);
        touchEarlier.advance(9);
        Sheet.due("has(1) at 9, TOUCH 10, WRITE 15", touchEarlier.has(1), true);
        touchEarlier.advance(1);
        Sheet.due("has(1) at 10, TOUCH 10, WRITE 15", touchEarlier.has(1), false);
        for (int later = 0; later < 2; later++) {
            Cache same = new Cache(10, 10 + later, 11 - later);
            Sheet.putAll(same, 1);
            same.advance(9);
            Sheet.due("has(1) at 9 with lives of 10 and 11", same.has(1), true);
            same.advance(1);
            Sheet.due("has(1) at 10 with lives of 10 and 11", same.has(1), false);
        }
    }

    private static void overFromItsEnd() {
        Cache x = new Cache(10, 5, 0);
        Sheet.putAll(x, 1);
        x.advance(4);
        Sheet.dueCount(x, Sheet.OVER, 0);
        Sheet.due("get(1) before its end", x.get(1), 10);
        x.advance(1);
        Sheet.dueCount(x, Sheet.OVER, 1);
        Sheet.due("get(1) at its end", x.get(1), Sheet.NONE);
        x.advance(1);
        Sheet.dueCount(x, Sheet.OVER, 1);
        Sheet.due("get(1) behind its end", x.get(1), Sheet.NONE);
    }

    private static void overButThere() {
        Cache x = new Cache(10, 5, 0);
        Sheet.putAll(x, 1, 2, 3);
        x.maintain();
        x.get(1);
        x.maintain();
        x.advance(4);
        Sheet.due("has(1) before the end", x.has(1), true);
        x.advance(1);
        Sheet.due("has(1)", x.has(1), false);
        Sheet.due("get(2)", x.get(2), Sheet.NONE);
        Sheet.due("refresh(3)", x.refresh(3), false);
        Sheet.due("load(3)", x.load(3), -2);
        Sheet.dueCount(x, Sheet.ENTRIES, 3);
        Sheet.dueCount(x, Sheet.OVER, 3);
        Sheet.dueCount(x, Sheet.IN_ROOMS, 3);
        Sheet.dueRoom(x, Sheet.WINDOW, 3);
        Sheet.dueRoom(x, Sheet.PROBATION, 2);
        Sheet.dueRoom(x, Sheet.PROTECTED, 1);
        Sheet.dueLogEnd(x, 0);
        Sheet.due("maintain()", x.maintain(), 0);
        Sheet.dueCount(x, Sheet.ENTRIES, 0);
        Sheet.dueCount(x, Sheet.OVER, 0);
        Sheet.dueRoom(x, Sheet.WINDOW);
        Sheet.dueRoom(x, Sheet.PROBATION);
        Sheet.dueRoom(x, Sheet.PROTECTED);
    }

    private static void readBuffers() {
        for (int odd = 0; odd < 2; odd++) {
            int one = 2 + odd;
            int two = 4 + odd;
            int other = 7 - odd;
            Cache x = new Cache(20, 0, 0);
            Sheet.putAll(x, one, two, other);
            x.maintain();
            Sheet.getTimes(x, one, 15);
            Sheet.dueCount(x, Sheet.NOTES, 15);
            x.get(two);
            Sheet.dueCount(x, Sheet.NOTES, 16);
            Sheet.dueCount(x, Sheet.LOST, 0);
            Sheet.due("get behind 16 notes", x.get(two), two * 10);
            Sheet.due("load behind 16 notes", x.load(two), two * 10);
            Sheet.dueCount(x, Sheet.NOTES, 16);
            Sheet.dueCount(x, Sheet.LOST, 2);
            Sheet.getTimes(x, other, 16);
            Sheet.dueCount(x, Sheet.NOTES, 32);
            Sheet.dueCount(x, Sheet.LOST, 2);
            x.get(other);
            Sheet.dueCount(x, Sheet.LOST, 3);
            x.maintain();
            Sheet.due("often of a key put, noted and lost", x.often(two), 2);
            Sheet.dueCount(x, Sheet.NOTES, 0);
            x.get(two);
            Sheet.dueCount(x, Sheet.NOTES, 1);
            Sheet.dueCount(x, Sheet.LOST, 3);
        }
        onlyWhatIsGotIsNoted();
        whatIsLostIsNoTouch();
    }

    private static void onlyWhatIsGotIsNoted() {
        Cache x = new Cache(10, 5, 0);
        Sheet.putAll(x, 1);
        x.has(1);
        x.get(2);
        x.get(-1);
        x.refresh(1);
        Sheet.dueCount(x, Sheet.NOTES, 0);
        x.load(1);
        Sheet.dueCount(x, Sheet.NOTES, 1);
        x.advance(5);
        x.get(1);
        Sheet.dueCount(x, Sheet.NOTES, 1);
    }

    private static void whatIsLostIsNoTouch() {
        for (int before = 15; before <= 16; before++) {
            Cache x = new Cache(20, 0, 0);
            Sheet.putAll(x, 2, 4, 6);
            x.maintain();
            Sheet.getTimes(x, 2, before);
            x.get(4);
            x.maintain();
            Sheet.due("often(4) noted behind " + before, x.often(4), before < 16 ? 2 : 1);
            Sheet.due("probation, 4 noted behind " + before, x.at(Sheet.PROBATION, 0), before < 16 ? Sheet.NONE : 4);
        }
    }

    private static void eighthTask() {
        Cache fresh = withSevenTasks();
        Sheet.putAll(fresh, 8);
        dueMaintained(fresh, "NEW", 8);
        Cache changed = withSevenTasks();
        Sheet.putAll(changed, 7);
        dueMaintained(changed, "CHANGED", 7);
        Cache gone = withSevenTasks();
        Sheet.due("remove(7), the eighth", gone.remove(7), 70);
        dueMaintained(gone, "GONE", 6);
        Cache loaded = withSevenTasks();
        loaded.load(8);
        loaded.finish(8, 80, 1);
        dueMaintained(loaded, "NEW by a load", 8);
        Cache reloaded = withSevenTasks();
        reloaded.refresh(7);
        reloaded.finish(7, 71, 1);
        dueMaintained(reloaded, "CHANGED by a reload", 7);
        sevenStaySeven();
        Cache mixed = new Cache(100, 0, 0);
        Sheet.putAll(mixed, 1, 1, 1);
        mixed.remove(1);
        Sheet.dueCount(mixed, Sheet.TASKS, 4);
        Sheet.putAll(mixed, 1, 2, 3);
        Sheet.dueCount(mixed, Sheet.TASKS, 7);
        Sheet.putAll(mixed, 4);
        Sheet.dueCount(mixed, Sheet.TASKS, 0);
        Sheet.putAll(mixed, 5, 6, 7, 8, 9, 10, 11);
        Sheet.dueCount(mixed, Sheet.TASKS, 7);
        Sheet.dueCount(mixed, Sheet.IN_ROOMS, 4);
        Sheet.putAll(mixed, 12);
        Sheet.dueCount(mixed, Sheet.TASKS, 0);
        Sheet.dueCount(mixed, Sheet.IN_ROOMS, 12);
    }

    private static Cache withSevenTasks() {
        Cache x = new Cache(100, 0, 0);
        Sheet.putAll(x, 1, 2, 3, 4, 5, 6, 7);
        Sheet.dueCount(x, Sheet.TASKS, 7);
        Sheet.dueCount(x, Sheet.IN_ROOMS, 0);
        return x;
    }

    private static void dueMaintained(Cache x, String by, int weight) {
        Sheet.due("tasks behind the eighth, " + by, x.count(Sheet.TASKS), 0);
        Sheet.due("weight in rooms behind the eighth, " + by, x.count(Sheet.IN_ROOMS), weight);
    }

    private static void sevenStaySeven() {
        Cache x = withSevenTasks();
        Sheet.badArgument("a refused put", () -> x.put(1, -1, 1, 0));
        x.remove(8);
        x.get(1);
        x.load(8);
        x.fail(8);
        x.load(8);
        Sheet.badArgument("a refused finish", () -> x.finish(8, -1, 1));
        x.advance(1);
        Sheet.dueCount(x, Sheet.TASKS, 7);
        Sheet.dueCount(x, Sheet.IN_ROOMS, 0);
    }

    private static void putOverOneThatIsOver() {
        Cache eighth = withTasksOfOver(7);
        Sheet.due("put(1), GONE the eighth", eighth.put(1, 11, 1, 0), false);
        Sheet.dueCount(eighth, Sheet.TASKS, 1);
        Sheet.dueCount(eighth, Sheet.ENTRIES, 1);
        Sheet.dueCount(eighth, Sheet.IN_ROOMS, 0);
        Sheet.dueLog(eighth, 0, 1, 10, Sheet.EXPIRED);
        Sheet.dueLog(eighth, 1, 2, 20, Sheet.EXPIRED);
        Sheet.dueLog(eighth, 6, 7, 70, Sheet.EXPIRED);
        Sheet.dueLogEnd(eighth, 7);
        Cache seventh = withTasksOfOver(6);
        Sheet.due("put(1), GONE the seventh", seventh.put(1, 11, 1, 0), false);
        Sheet.dueCount(seventh, Sheet.TASKS, 0);
        Sheet.dueRoom(seventh, Sheet.WINDOW, 1);
        Sheet.dueLog(seventh, 0, 1, 10, Sheet.EXPIRED);
        Sheet.dueLog(seventh, 5, 6, 60, Sheet.EXPIRED);
        Sheet.dueLogEnd(seventh, 6);
        Cache sixth = withTasksOfOver(5);
        Sheet.due("put(1), GONE the sixth", sixth.put(1, 11, 1, 0), false);
        Sheet.dueCount(sixth, Sheet.TASKS, 7);
        Sheet.dueCount(sixth, Sheet.IN_ROOMS, 0);
        Sheet.dueLog(sixth, 0, 1, 10, Sheet.EXPIRED);
        Sheet.dueLogEnd(sixth, 1);
        Sheet.due("get(1)", sixth.get(1), 11);
        Cache notOver = new Cache(10, 5, 0);
        Sheet.putAll(notOver, 1);
        notOver.advance(4);
        Sheet.due("put(1) over one that is not over yet", notOver.put(1, 11, 1, 0), true);
        Sheet.dueCount(notOver, Sheet.TASKS, 2);
        Sheet.dueLog(notOver, 0, 1, 10, Sheet.REPLACED);
    }

    private static Cache withTasksOfOver(int tasks) {
        Cache x = new Cache(10, 5, 0);
        for (int key = 1; key <= tasks; key++) {
            Sheet.putAll(x, key);
        }
        x.advance(5);
        return x;
    }

    private static void ofThatVeryEntry() {
        Cache noted = new Cache(10, 0, 0);
        Sheet.putAll(noted, 1, 2);
        noted.maintain();
        noted.get(1);
        noted.remove(1);
        noted.put(1, 11, 3, 0);
        Sheet.due("maintain()", noted.maintain(), 4);
        // Put, noted while the old one is in probation still, put: had the note been the new one's, it were lost.
        Sheet.due("often(1)", noted.often(1), 3);
        Sheet.dueRoom(noted, Sheet.PROTECTED);
        Sheet.dueRoom(noted, Sheet.PROBATION, 2, 1);
        Cache fresh = new Cache(10, 0, 0);
        fresh.put(1, 10, 5, 0);
        fresh.remove(1);
        fresh.put(1, 11, 1, 0);
        // The first NEW and the GONE are of the one that has gone: the second NEW alone comes to the window, once.
        Sheet.due("maintain()", fresh.maintain(), 1);
        Sheet.dueRoom(fresh, Sheet.WINDOW, 1);
        Cache gone = new Cache(10, 5, 0);
        Sheet.putAll(gone, 1);
        gone.maintain();
        gone.remove(1);
        gone.put(1, 11, 2, 0);
        gone.put(1, 12, 3, 0);
        gone.remove(1);
        Sheet.due("maintain()", gone.maintain(), 0);
        Sheet.dueCount(gone, Sheet.ENTRIES, 0);
    }
}

/** Each promise of the document by its number: ordinary inputs, edges, wrong inputs. */
public final class PromiseTests {
    private static final long TWO_TO_40 = 1L << 40;

    public static void main(String[] args) {
        promise1();
        promise2();
        promise3();
        promise4();
        promise5();
        promise6();
        promise7();
        promise8();
        promise9();
        promise10();
        promise11();
        promise12();
        promise13();
        promise14();
        promise15();
        Sheet.close();
    }

    private static void promise1() {
        Sheet.ask("promise 1");
        Cache x = new Cache(4, 0, 0);
        for (int what = 0; what <= 17; what++) {
            Sheet.due("count(" + what + ") of a new one", x.count(what), what == 6 ? 1 : 0);
        }
        Sheet.due("NONE", WindowCache.NONE, -1);
        Sheet.due("W of 99", new Cache(99, 0, 0).count(6), 1);
        Sheet.due("W of 199", new Cache(199, 0, 0).count(6), 1);
        Sheet.due("W of 200", new Cache(200, 0, 0).count(6), 2);
        Sheet.due("W of 5000", new Cache(5000, 0, 0).count(6), 50);
        Sheet.due("W of 5001", new Cache(5001, 0, 0).count(6), 50);
        Sheet.due("W of the most", new Cache(Integer.MAX_VALUE, 0, 0).count(6), 50);
        for (int max : new int[] {0, -1, Integer.MIN_VALUE, 1}) {
            Cache least = new Cache(max, 0, 0);
            Sheet.putAll(least, 1, 2);
            Sheet.due("maintain() with max " + max, least.maintain(), 1);
        }
        for (int max : new int[] {5000, 6000}) {
            Cache most = new Cache(max, 0, 0);
            for (int key = 0; key < 6; key++) {
                most.put(key, 1, 1000, 0);
            }
            Sheet.due("maintain() with max " + max, most.maintain(), 5000);
            Cache full = new Cache(max, 0, 0);
            for (int key = 0; key < 6; key++) {
                full.put(key, 1, key == 5 ? 1 : 1000, 0);
            }
            Sheet.due("maintain() with 5001 and max " + max, full.maintain() <= 5000, true);
        }
        Cache endless = new Cache(4, -5, Integer.MIN_VALUE);
        endless.put(1, 10, 1, 0);
        endless.advance(Integer.MAX_VALUE);
        Sheet.due("has(1) without a life", endless.has(1), true);
        for (int by = 0; by < 2; by++) {
            Cache brief = new Cache(4, by, 1 - by);
            brief.put(1, 10, 1, 0);
            Sheet.due("has(1) with a life of 1", brief.has(1), true);
            brief.advance(1);
            Sheet.due("has(1) with a life of 1, later", brief.has(1), false);
        }
        livesOfNewObject();
    }

    private static void livesOfNewObject() {
        Cache write = new Cache(4, 10, 0);
        write.put(1, 10, 1, 0);
        write.advance(9);
        Sheet.due("get(1) at 9", write.get(1), 10);
        write.advance(1);
        Sheet.due("has(1) at its end", write.has(1), false);
        Cache touch = new Cache(4, 0, 10);
        touch.put(1, 10, 1, 0);
        touch.advance(9);
        Sheet.due("get(1) at 9", touch.get(1), 10);
        touch.advance(9);
        Sheet.due("has(1) at 18", touch.has(1), true);
        touch.advance(1);
        Sheet.due("has(1) at 19", touch.has(1), false);
        Cache both = new Cache(4, 15, 10);
        both.put(1, 10, 1, 0);
        both.advance(9);
        both.get(1);
        both.advance(5);
        Sheet.due("has(1) at 14", both.has(1), true);
        both.advance(1);
        Sheet.due("has(1) at 15", both.has(1), false);
    }

    private static void promise2() {
        Sheet.ask("promise 2");
        Cache x = new Cache(10, 5, 0);
        Sheet.due("get(0) of none", x.get(0), Sheet.NONE);
        x.put(0, 7, 1, 0);
        x.put(999, 8, 1, 0);
        Sheet.due("get(0)", x.get(0), 7);
        Sheet.due("get(999)", x.get(999), 8);
        Sheet.due("get(-1)", x.get(-1), Sheet.NONE);
        Sheet.due("get(1000)", x.get(1000), Sheet.NONE);
        Sheet.due("hits", x.count(7), 2);
        Sheet.due("misses", x.count(8), 1);
        x.advance(5);
        Sheet.due("get(0) over", x.get(0), Sheet.NONE);
        Sheet.due("misses", x.count(8), 2);
        Sheet.due("entries that lie there", x.count(0), 2);
        Sheet.due("notes", x.count(13), 2);
        readBuffers();
        notesOfAnEntryThatIsNotInARoom();
        orderOfNotes();
    }

    private static void readBuffers() {
        Cache x = new Cache(10, 0, 20);
        Sheet.putAll(x, 1, 2);
        x.maintain();
        Sheet.getTimes(x, 2, 16);
        Sheet.due("notes lost", x.count(16), 0);
        x.advance(15);
        Sheet.due("get(2) whose note is lost", x.get(2), 20);
        Sheet.due("notes lost", x.count(16), 1);
        Sheet.getTimes(x, 1, 17);
        Sheet.due("notes", x.count(13), 32);
        Sheet.due("notes lost", x.count(16), 2);
        x.advance(10);
        Sheet.due("has(2), touched with its note lost", x.has(2), true);
        x.maintain();
        Sheet.due("notes behind maintenance", x.count(13), 0);
        Sheet.due("often(2)", x.often(2), 15);
    }

    private static void notesOfAnEntryThatIsNotInARoom() {
        Cache x = new Cache(10, 0, 0);
        x.put(1, 10, 1, 0);
        Sheet.getTimes(x, 1, 3);
        x.maintain();
        Sheet.due("often(1), noted before it came to a room", x.often(1), 1);
        x.get(1);
        x.remove(1);
        x.put(1, 11, 1, 0);
        x.maintain();
        Sheet.due("often(1), noted, gone and new", x.often(1), 3);
        Sheet.dueRoom(x, 0, 1);
        Sheet.dueRoom(x, 2);
    }

    private static void orderOfNotes() {
        Cache x = new Cache(10, 0, 0);
        Sheet.putAll(x, 1, 2, 3, 4, 5);
        x.maintain();
        Sheet.dueRoom(x, 0, 5);
        Sheet.dueRoom(x, 1, 1, 2, 3, 4);
        x.get(3);
        x.get(4);
        x.get(1);
        x.get(2);
        x.maintain();
        Sheet.dueRoom(x, 2, 4, 2, 3, 1);
        x.get(2);
        x.maintain();
        Sheet.dueRoom(x, 2, 4, 3, 1, 2);
    }

    private static void promise3() {
        Sheet.ask("promise 3");
        Cache x = new Cache(10, 0, 10);
        Sheet.due("has(1) of none", x.has(1), false);
        x.put(1, 10, 1, 0);
        x.advance(9);
        Sheet.due("has(1)", x.has(1), true);
        Sheet.due("has(-1)", x.has(-1), false);
        Sheet.due("has(1000)", x.has(1000), false);
        x.advance(1);
        Sheet.due("has(1) is no touch", x.has(1), false);
        Sheet.due("hits", x.count(7), 0);
        Sheet.due("misses", x.count(8), 0);
        Sheet.due("notes", x.count(13), 0);
        Sheet.due("entries", x.count(0), 1);
    }

    private static void promise4() {
        Sheet.ask("promise 4");
        Cache x = new Cache(10, 0, 0);
        Sheet.due("put of a new one", x.put(0, 0, 1, 0), false);
        Sheet.due("put anew", x.put(0, 5, 1000, 0), true);
        Sheet.due("put(999)", x.put(999, Integer.MAX_VALUE, 1, Integer.MAX_VALUE), false);
        Sheet.dueLog(x, 0, 0, 0, Sheet.REPLACED);
        Sheet.due("tasks", x.count(14), 3);
        Sheet.badArgument("put(-1)", () -> x.put(-1, 1, 1, 0));
        Sheet.badArgument("put(1000)", () -> x.put(1000, 1, 1, 0));
        Sheet.badArgument("value -1", () -> x.put(1, -1, 1, 0));
        Sheet.badArgument("weight 0", () -> x.put(1, 1, 0, 0));
        Sheet.badArgument("weight 1001", () -> x.put(1, 1, 1001, 0));
        Sheet.badArgument("own -1", () -> x.put(1, 1, 1, -1));
        Sheet.due("entries", x.count(0), 2);
        Sheet.due("tasks behind wrong puts", x.count(14), 3);
        Sheet.due("get(999)", x.get(999), Integer.MAX_VALUE);
        ownTimes();
        putOverAnEntryThatIsOver();
        eighthTask();
        weightsAsTheyAreNow();
    }

    private static void ownTimes() {
        Cache x = new Cache(10, 20, 10);
        x.put(1, 10, 1, 30);
        x.put(2, 20, 1, 5);
        x.put(3, 30, 1, 1);
        x.advance(1);
        Sheet.due("has(3) behind its own 1", x.has(3), false);
        x.advance(3);
        Sheet.due("get(2)", x.get(2), 20);
        x.advance(1);
        Sheet.due("has(2): a touch does not move its own end", x.has(2), false);
        x.advance(24);
        Sheet.due("has(1) at 29", x.has(1), true);
        Sheet.due("put(1) anew without own", x.put(1, 11, 1, 0), true);
        x.advance(9);
        Sheet.due("has(1) at 38", x.has(1), true);
        x.advance(1);
        Sheet.due("has(1) at 39", x.has(1), false);
    }

    private static void putOverAnEntryThatIsOver() {
        Cache x = new Cache(10, 5, 0);
        Sheet.putAll(x, 1, 2, 3, 4, 5, 6, 7);
        x.advance(5);
        Sheet.due("over", x.count(1), 7);
        Sheet.due("put(1) over one that is over", x.put(1, 11, 1, 0), false);
        Sheet.due("GONE was the eighth, NEW comes behind", x.count(14), 1);
        Sheet.due("entries", x.count(0), 1);
        Sheet.dueLog(x, 0, 1, 10, Sheet.EXPIRED);
        Sheet.dueLog(x, 1, 2, 20, Sheet.EXPIRED);
        Sheet.dueLog(x, 6, 7, 70, Sheet.EXPIRED);
        Sheet.due("listened(7, 0)", x.listened(7, 0), Sheet.NONE);
        x.maintain();
        Sheet.dueRoom(x, 0, 1);
        Sheet.due("often(1)", x.often(1), 2);
    }

    private static void eighthTask() {
        Cache x = new Cache(100, 0, 0);
        Sheet.putAll(x, 1, 2, 3, 4, 5);
        x.put(1, 11, 1, 0);
        x.remove(2);
        Sheet.due("tasks", x.count(14), 7);
        Sheet.due("weight in rooms", x.count(2), 0);
        x.put(6, 60, 1, 0);
        Sheet.due("tasks behind the eighth", x.count(14), 0);
        Sheet.due("weight in rooms", x.count(2), 5);
        Sheet.dueRoom(x, 0, 6);
        Sheet.dueRoom(x, 1, 3, 4, 5, 1);
        Sheet.due("often(2), gone before it came", x.often(2), 1);
    }

    private static void weightsAsTheyAreNow() {
        Cache x = new Cache(10, 0, 0);
        Sheet.putAll(x, 1, 2, 3);
        x.maintain();
        Sheet.getTimes(x, 1, 1);
        x.maintain();
        x.put(1, 11, 9, 0);
        Sheet.due("protected", x.count(5), 9);
        Sheet.due("rooms", x.count(2), 11);
        x.maintain();
        Sheet.dueRoom(x, 0, 3);
        Sheet.dueRoom(x, 1, 1);
        Sheet.dueLog(x, 1, 2, 20, Sheet.EVICTED);
    }

    private static void promise5() {
        Sheet.ask("promise 5");
        Cache x = new Cache(10, 5, 0);
        Sheet.due("remove(1) of none", x.remove(1), Sheet.NONE);
        Sheet.due("remove(-1)", x.remove(-1), Sheet.NONE);
        Sheet.due("remove(1000)", x.remove(1000), Sheet.NONE);
        Sheet.due("tasks", x.count(14), 0);
        Sheet.putAll(x, 1, 2);
        x.maintain();
        Sheet.due("remove(1)", x.remove(1), 10);
        Sheet.due("has(1)", x.has(1), false);
        Sheet.due("remove(1) again", x.remove(1), Sheet.NONE);
        Sheet.dueLog(x, 0, 1, 10, Sheet.EXPLICIT);
        Sheet.due("entries", x.count(0), 1);
        Sheet.due("weight in rooms until maintenance", x.count(2), 2);
        Sheet.dueRoom(x, 1, 1);
        x.advance(5);
        Sheet.due("remove(2) over", x.remove(2), Sheet.NONE);
        Sheet.dueLog(x, 1, 2, 20, Sheet.EXPIRED);
        Sheet.due("listened(2, 0)", x.listened(2, 0), Sheet.NONE);
        Sheet.due("tasks", x.count(14), 2);
        Sheet.due("maintain()", x.maintain(), 0);
        Sheet.due("misses", x.count(8), 0);
        x.put(3, 30, 1, 0);
        x.remove(3);
        Sheet.due("maintain()", x.maintain(), 0);
        Sheet.due("often(3)", x.often(3), 1);
        removeByTasks();
    }

    private static void removeByTasks() {
        Cache x = new Cache(10, 0, 0);
        Sheet.putAll(x, 1, 2, 3);
        x.maintain();
        x.get(2);
        x.maintain();
        x.remove(1);
        x.remove(2);
        x.remove(3);
        Sheet.due("weight in rooms", x.count(2), 3);
        Sheet.due("maintain()", x.maintain(), 0);
        Sheet.dueRoom(x, 0);
        Sheet.dueRoom(x, 1);
        Sheet.dueRoom(x, 2);
        Sheet.putAll(x, 1, 2, 3, 4, 5, 6, 7);
        Sheet.due("remove(3) as the eighth task", x.remove(3), 30);
        Sheet.due("tasks", x.count(14), 0);
        Sheet.due("weight in rooms", x.count(2), 6);
        Sheet.due("evicted", x.count(11), 0);
    }

    private static void promise6() {
        Sheet.ask("promise 6");
        Cache x = new Cache(10, 5, 0);
        Sheet.badArgument("load(-1)", () -> x.load(-1));
        Sheet.badArgument("load(1000)", () -> x.load(1000));
        Sheet.due("misses", x.count(8), 0);
        Sheet.due("load(1)", x.load(1), -2);
        Sheet.badState("load(1) on its way", () -> x.load(1));
        Sheet.due("misses", x.count(8), 2);
        Sheet.due("keys on their way", x.count(17), 1);
        x.put(1, 10, 1, 0);
        Sheet.due("load(1), an entry is there", x.load(1), 10);
        Sheet.due("hits", x.count(7), 1);
        Sheet.due("notes", x.count(13), 1);
        x.advance(5);
        Sheet.badState("load(1), over and on its way", () -> x.load(1));
        x.fail(1);
        Sheet.due("load(1) over", x.load(1), -2);
        x.put(2, 20, 1, 0);
        x.refresh(2);
        Sheet.due("load(2) with a reload on its way", x.load(2), 20);
        x.remove(2);
        Sheet.badState("load(2) with a reload on its way", () -> x.load(2));
        Sheet.due("load(0)", x.load(0), -2);
        Sheet.due("load(999)", x.load(999), -2);
        Sheet.due("keys on their way", x.count(17), 4);
        Sheet.due("misses", x.count(8), 7);
    }

    private static void promise7() {
        Sheet.ask("promise 7");
        Cache x = new Cache(10, 0, 5);
        Sheet.due("refresh(-1)", x.refresh(-1), false);
        Sheet.due("refresh(1000)", x.refresh(1000), false);
        Sheet.due("refresh(1) of none", x.refresh(1), false);
        x.put(1, 10, 1, 0);
        Sheet.due("refresh(1)", x.refresh(1), true);
        Sheet.due("refresh(1) again", x.refresh(1), false);
        Sheet.due("keys on their way", x.count(17), 1);
        x.load(2);
        x.put(2, 20, 1, 0);
        Sheet.due("refresh(2) with a load on its way", x.refresh(2), false);
        x.fail(1);
        Sheet.due("refresh(1) behind fail", x.refresh(1), true);
        x.fail(1);
        Sheet.due("hits", x.count(7), 0);
        x.advance(4);
        Sheet.due("refresh(1)", x.refresh(1), true);
        x.fail(1);
        x.advance(1);
        Sheet.due("refresh(1) over, and not touched before", x.refresh(1), false);
    }

    private static void promise8() {
        Sheet.ask("promise 8");
        Cache x = new Cache(10, 0, 0);
        Sheet.badState("finish(1) of none", () -> x.finish(1, 1, 1));
        Sheet.badState("finish(1, -1, 0) of none", () -> x.finish(1, -1, 0));
        Sheet.badState("finish(-1)", () -> x.finish(-1, 1, 1));
        Sheet.badState("finish(1000)", () -> x.finish(1000, 1, 1));
        x.load(1);
        Sheet.badArgument("value -1", () -> x.finish(1, -1, 1));
        Sheet.badArgument("weight 0", () -> x.finish(1, 1, 0));
        Sheet.badArgument("weight 1001", () -> x.finish(1, 1, 1001));
        Sheet.due("finishes", x.count(9), 0);
        Sheet.due("keys on their way", x.count(17), 1);
        Sheet.due("finish(1)", x.finish(1, 0, 1000), true);
        Sheet.due("get(1)", x.get(1), 0);
        Sheet.due("tasks", x.count(14), 1);
        Sheet.due("listened(0, 0)", x.listened(0, 0), Sheet.NONE);
        Sheet.due("finishes", x.count(9), 1);
        Sheet.due("keys on their way", x.count(17), 0);
        x.load(2);
        x.put(2, 20, 1, 0);
        Sheet.due("finish(2), an entry is there", x.finish(2, 21, 1), false);
        Sheet.due("get(2)", x.get(2), 20);
        Sheet.due("finishes", x.count(9), 2);
        finishLoadOverAnEntryThatIsOver();
        finishReload();
        reloadTooLate();
    }

    private static void finishLoadOverAnEntryThatIsOver() {
        Cache x = new Cache(10, 5, 0);
        x.put(1, 10, 1, 0);
        x.advance(5);
        x.load(1);
        Sheet.due("finish(1) over one that is over", x.finish(1, 11, 1), true);
        Sheet.dueLog(x, 0, 1, 10, Sheet.EXPIRED);
        Sheet.due("tasks NEW, GONE, NEW", x.count(14), 3);
        x.advance(4);
        Sheet.due("has(1)", x.has(1), true);
        x.advance(1);
        Sheet.due("has(1)", x.has(1), false);
    }

    private static void finishReload() {
        Cache x = new Cache(10, 5, 0);
        x.put(1, 10, 1, 100);
        x.maintain();
        x.refresh(1);
        x.get(1);
        Sheet.due("finish(1)", x.finish(1, 11, 3), true);
        Sheet.dueLog(x, 0, 1, 10, Sheet.REPLACED);
        Sheet.due("get(1)", x.get(1), 11);
        Sheet.due("weight in rooms", x.count(2), 3);
        Sheet.due("tasks", x.count(14), 1);
        x.advance(5);
        Sheet.due("has(1): no time of its own", x.has(1), false);
    }

    private static void reloadTooLate() {
        Cache x = new Cache(10, 5, 0);
        Sheet.putAll(x, 1, 2, 3);
        x.refresh(1);
        x.refresh(2);
        x.refresh(3);
        x.put(1, 11, 1, 0);
        x.remove(2);
        x.put(2, 21, 1, 0);
        Sheet.due("finish(1), put over", x.finish(1, 12, 1), false);
        Sheet.due("finish(2), another entry", x.finish(2, 22, 1), false);
        Sheet.due("get(1)", x.get(1), 11);
        Sheet.due("get(2)", x.get(2), 21);
        x.advance(5);
        Sheet.due("finish(3), over", x.finish(3, 31, 1), false);
        Sheet.due("has(3)", x.has(3), false);
        Sheet.due("over", x.count(1), 3);
        x.maintain();
        x.put(4, 40, 1, 0);
        x.refresh(4);
        x.remove(4);
        Sheet.due("finish(4), gone", x.finish(4, 41, 1), false);
        Sheet.due("has(4)", x.has(4), false);
        Sheet.due("finishes", x.count(9), 4);
        Sheet.due("keys on their way", x.count(17), 0);
    }

    private static void promise9() {
        Sheet.ask("promise 9");
        Cache x = new Cache(10, 0, 0);
        Sheet.badState("fail(1) of none", () -> x.fail(1));
        Sheet.badState("fail(-1)", () -> x.fail(-1));
        Sheet.badState("fail(1000)", () -> x.fail(1000));
        Sheet.due("fails", x.count(10), 0);
        x.load(1);
        x.fail(1);
        Sheet.due("fails", x.count(10), 1);
        Sheet.due("has(1)", x.has(1), false);
        Sheet.due("keys on their way", x.count(17), 0);
        Sheet.badState("fail(1) again", () -> x.fail(1));
        x.put(2, 20, 1, 0);
        x.refresh(2);
        x.fail(2);
        Sheet.due("fails", x.count(10), 2);
        Sheet.due("get(2)", x.get(2), 20);
        Sheet.badState("finish(2) behind fail", () -> x.finish(2, 21, 1));
        Sheet.due("finishes", x.count(9), 0);
    }

    private static void promise10() {
        Sheet.ask("promise 10");
        Cache x = new Cache(10, 0, 0);
        Sheet.due("advance(0)", x.advance(0), 0);
        Sheet.due("advance(5)", x.advance(5), 5);
        Sheet.due("advance(-1)", x.advance(-1), Sheet.NONE);
        Sheet.due("advance(least)", x.advance(Integer.MIN_VALUE), Sheet.NONE);
        Sheet.due("advance(0)", x.advance(0), 5);
        Cache far = new Cache(10, 0, 0);
        // 512 calls end before 2^40: the nearest to it that can be asked for.
        for (int i = 1; i < Cache.MOST_CALLS; i++) {
            far.advance(Integer.MAX_VALUE);
        }
        Sheet.due("advance, call 512", far.advance(Integer.MAX_VALUE), TWO_TO_40 - 512);
        Cache over = new Cache(10, 3, 0);
        over.put(1, 10, 1, 0);
        over.advance(3);
        Sheet.due("advance is no maintenance: entries", over.count(0), 1);
        Sheet.due("over", over.count(1), 1);
    }

    private static void promise11() {
        Sheet.ask("promise 11");
        Cache x = new Cache(10, 0, 0);
        Sheet.due("maintain() of a new one", x.maintain(), 0);
        x.put(1, 10, 11, 0);
        Sheet.due("maintain(), too heavy", x.maintain(), 0);
        Sheet.dueLog(x, 0, 1, 10, Sheet.EVICTED);
        Sheet.due("evicted weight", x.count(12), 11);
        expiredByEndAndKey();
        touchedAndDemoted();
        victimAndCandidate();
        draws();
        climbUp();
        climbDown();
        rateOfTheLatestClimb();
        rateIsCut();
    }

    private static void expiredByEndAndKey() {
        Cache x = new Cache(100, 0, 0);
        x.put(9, 90, 1, 7);
        x.put(5, 50, 1, 7);
        x.put(7, 70, 1, 3);
        x.put(8, 80, 1, 8);
        x.put(1, 10, 1, 7);
        x.maintain();
        x.advance(7);
        Sheet.due("maintain()", x.maintain(), 1);
        Sheet.dueLog(x, 0, 7, 70, Sheet.EXPIRED);
        Sheet.dueLog(x, 1, 1, 10, Sheet.EXPIRED);
        Sheet.dueLog(x, 2, 5, 50, Sheet.EXPIRED);
        Sheet.dueLog(x, 3, 9, 90, Sheet.EXPIRED);
        Sheet.due("listened(4, 0)", x.listened(4, 0), Sheet.NONE);
        Sheet.due("evicted", x.count(11), 0);
        x.advance(1);
        x.put(2, 20, 1, 0);
        Sheet.due("maintain()", x.maintain(), 1);
        Sheet.dueLog(x, 4, 8, 80, Sheet.EXPIRED);
    }

    private static void touchedAndDemoted() {
        Cache x = new Cache(5, 0, 0);
        Sheet.putAll(x, 1, 3, 5, 7, 9);
        x.maintain();
        Sheet.dueRoom(x, 1, 1, 3, 5, 7);
        x.get(1);
        x.get(3);
        x.get(5);
        x.get(7);
        x.get(9);
        x.maintain();
        // Protected has room for (5 - 1) * 4 / 5 = 3.
        Sheet.dueRoom(x, 2, 3, 5, 7);
        Sheet.dueRoom(x, 1, 1);
        Sheet.dueRoom(x, 0, 9);
        x.put(5, 51, 2, 0);
        x.maintain();
        Sheet.dueRoom(x, 2, 7, 5);
        Sheet.dueRoom(x, 1, 3);
        Sheet.dueLog(x, 1, 1, 10, Sheet.EVICTED);
    }

    private static void victimAndCandidate() {
        Cache x = new Cache(3, 0, 0);
        Sheet.putAll(x, 1, 2, 3);
        x.maintain();
        Sheet.dueRoom(x, 1, 1, 2);
        x.put(4, 40, 1, 0);
        x.maintain();
        // 3 came by step 4 and was asked for no more often than 1: it goes.
        Sheet.dueLog(x, 0, 3, 30, Sheet.EVICTED);
        Sheet.dueRoom(x, 1, 1, 2);
        Sheet.dueRoom(x, 0, 4);
        Sheet.getTimes(x, 4, 2);
        Sheet.putAll(x, 5, 6);
        x.maintain();
        // 4 was asked for more often than 1; 5 is looked at next, against 2.
        Sheet.dueLog(x, 1, 1, 10, Sheet.EVICTED);
        Sheet.dueLog(x, 2, 5, 50, Sheet.EVICTED);
        Sheet.dueRoom(x, 1, 2, 4);
        Sheet.due("evicted", x.count(11), 3);
        Sheet.due("evicted weight", x.count(12), 3);
    }

    /** A draw at each eviction of one asked for more than 5 times, no draw else: the 63rd is a multiple of 128. */
    private static void draws() {
        Cache x = new Cache(2, 0, 0);
        Sheet.putAll(x, 0, 1);
        x.maintain();
        Sheet.dueRoom(x, 1, 0);
        Sheet.getTimes(x, 0, 16);
        Sheet.getTimes(x, 1, 4);
        x.maintain();
        Sheet.due("often(0)", x.often(0), 15);
        Sheet.due("often(1)", x.often(1), 5);
        Sheet.putAll(x, 2);
        x.maintain();
        Sheet.dueLog(x, 0, 1, 10, Sheet.EVICTED);
        Sheet.getTimes(x, 2, 5);
        x.maintain();
        Sheet.due("often(2)", x.often(2), 6);
        Sheet.putAll(x, 1);
        x.maintain();
        Sheet.dueLog(x, 1, 2, 20, Sheet.EVICTED);
        Sheet.getTimes(x, 1, 10);
        x.maintain();
        for (int draw = 2; draw <= 62; draw++) {
            Sheet.putAll(x, draw % 2 == 0 ? 2 : 1);
            x.maintain();
        }
        Sheet.due("key 0 behind 62 draws", x.has(0), true);
        Sheet.putAll(x, 1);
        x.maintain();
        Sheet.dueLog(x, 63, 0, 0, Sheet.EVICTED);
        Sheet.due("key 0 behind 63 draws", x.has(0), false);
        Sheet.due("key 2, the candidate", x.has(2), true);
    }

    private static void climbUp() {
        Cache x = new Cache(4, 0, 0);
        Sheet.putAll(x, 1, 2, 3, 4);
        x.maintain();
        Sheet.dueRoom(x, 1, 1, 2, 3);
        Sheet.getTimes(x, 900, 39);
        x.maintain();
        Sheet.due("W before 10 * MAX", x.count(6), 1);
        x.get(900);
        x.maintain();
        Sheet.due("W", x.count(6), 2);
        Sheet.dueRoom(x, 0, 4, 1);
        Sheet.dueRoom(x, 1, 2, 3);
        Sheet.getTimes(x, 2, 40);
        x.maintain();
        Sheet.due("W", x.count(6), 3);
        // Two went up to protected, and 3, the earliest of probation, into the window; protected has room for 0.
        Sheet.dueRoom(x, 0, 4, 1, 3);
        Sheet.dueRoom(x, 1, 2);
        Sheet.dueRoom(x, 2);
        Sheet.getTimes(x, 1, 40);
        x.maintain();
        Sheet.due("W at most MAX - 1", x.count(6), 3);
    }

    private static void climbDown() {
        Cache x = new Cache(40, 0, 0);
        Sheet.putAll(x, 1, 2, 3, 4);
        x.maintain();
        Sheet.getTimes(x, 1, 400);
        x.maintain();
        Sheet.due("W by a step of 40 / 16", x.count(6), 3);
        for (int max = 1; max <= 50; max++) {
            Cache z = new Cache(max, 0, 0);
            Sheet.getTimes(z, 900, 10 * max - 1);
            z.maintain();
            Sheet.due("W of " + max + ", no climb yet", z.count(6), 1);
            z.get(900);
            z.maintain();
            Sheet.due("W of " + max + " behind a climb", z.count(6), max < 3 ? 1 : max < 32 ? 2 : max < 48 ? 3 : 4);
        }
        Cache y = new Cache(4, 0, 0);
        Sheet.putAll(y, 1, 2, 3, 4);
        y.maintain();
        Sheet.getTimes(y, 4, 40);
        y.maintain();
        Sheet.due("W", y.count(6), 2);
        Sheet.dueRoom(y, 0, 4, 1);
        Sheet.getTimes(y, 900, 40);
        y.maintain();
        Sheet.due("W behind a worse rate", y.count(6), 1);
        Sheet.dueRoom(y, 0, 1);
        Sheet.dueRoom(y, 1, 2, 3, 4);
        Sheet.getTimes(y, 900, 40);
        y.maintain();
        Sheet.due("W at least 1, the way stays", y.count(6), 1);
    }

    /** 23 of 41 is more than 28 of 50, but both are 560 of 1000, cut. */
    private static void rateIsCut() {
        Cache x = new Cache(4, 0, 0);
        Sheet.putAll(x, 1);
        Sheet.getTimes(x, 1, 23);
        Sheet.getTimes(x, 900, 18);
        x.maintain();
        Sheet.due("W", x.count(6), 2);
        Sheet.getTimes(x, 1, 28);
        Sheet.getTimes(x, 900, 22);
        x.maintain();
        Sheet.due("W, the way stays", x.count(6), 3);
    }

    private static void rateOfTheLatestClimb() {
        Cache y = new Cache(4, 0, 0);
        Sheet.putAll(y, 1);
        Sheet.getTimes(y, 1, 40);
        y.maintain();
        Sheet.getTimes(y, 900, 20);
        Sheet.getTimes(y, 1, 20);
        y.maintain();
        Sheet.due("W, rate 500 behind 1000: down", y.count(6), 1);
        Sheet.getTimes(y, 900, 30);
        Sheet.getTimes(y, 1, 10);
        y.maintain();
        Sheet.due("W, rate 250 behind 500: up", y.count(6), 2);
        Sheet.getTimes(y, 900, 29);
        Sheet.getTimes(y, 1, 11);
        y.maintain();
        Sheet.due("W, rate 275 behind 250: up", y.count(6), 3);
    }

    private static void promise12() {
        Sheet.ask("promise 12");
        Cache x = new Cache(10, 0, 0);
        Sheet.due("count(-1)", x.count(-1), Sheet.NONE);
        Sheet.due("count(18)", x.count(18), Sheet.NONE);
        Sheet.due("count(most)", x.count(Integer.MAX_VALUE), Sheet.NONE);
        x.put(1, 10, 2, 0);
        x.put(2, 20, 3, 4);
        x.put(3, 30, 1, 4);
        x.maintain();
        x.get(1);
        x.maintain();
        x.advance(4);
        x.get(1);
        x.get(2);
        x.load(50);
        x.load(51);
        x.fail(50);
        x.finish(51, 510, 1);
        x.refresh(51);
        int[] want = {4, 2, 6, 1, 3, 2, 1, 2, 3, 1, 1, 0, 0, 1, 1, 4, 0, 1};
        for (int what = 0; what < want.length; what++) {
            Sheet.due("count(" + what + ")", x.count(what), want[what]);
        }
        x.put(4, 40, 9, 0);
        x.maintain();
        Sheet.due("evicted", x.count(11), 2);
        Sheet.due("evicted weight", x.count(12), 10);
    }

    private static void promise13() {
        Sheet.ask("promise 13");
        Cache x = new Cache(10, 0, 0);
        Sheet.due("often(-1)", x.often(-1), Sheet.NONE);
        Sheet.due("often(1000)", x.often(1000), Sheet.NONE);
        Sheet.due("often(0)", x.often(0), 0);
        Sheet.due("often(999)", x.often(999), 0);
        x.put(999, 1, 1, 0);
        x.maintain();
        Sheet.due("often(999)", x.often(999), 1);
        Sheet.getTimes(x, 999, 16);
        x.maintain();
        Sheet.due("often(999), at most", x.often(999), 15);
        Sheet.due("added, only when a count grew", x.count(15), 15);
        Sheet.getTimes(x, 999, 3);
        x.maintain();
        Sheet.due("added", x.count(15), 15);
        countsMeet(1, 8);
        countsMeet(8, 8);
        countsMeet(9, 16);
        countsMeet(16, 16);
        countsMeet(17, 32);
        countsMeet(1025, 2048);
        countsMeet(5000, 8192);
        halving();
    }

    /** Keys meet in small rows: what a key's four places say is worked out here by the document's formula. */
    private static void countsMeet(int max, int size) {
        int[] odd = {-1640531527, -2048144777, -1028477379, 668265263};
        for (int from = 0; from < 1000; from += 250) {
            Cache x = new Cache(max, 0, 0);
            int[][] rows = new int[4][size];
            for (int key = 100; key < 125; key++) {
                x.put(key, 1, 1, 0);
                for (int row = 0; row < 4; row++) {
                    rows[row][((key + 1) * odd[row] >>> 7) % size]++;
                }
            }
            x.maintain();
            for (int key = from; key < from + 250; key++) {
                int least = 15;
                for (int row = 0; row < 4; row++) {
                    least = Math.min(least, rows[row][((key + 1) * odd[row] >>> 7) % size]);
                }
                Sheet.due("often(" + key + ") with max " + max, x.often(key), least);
            }
            Sheet.due("added", x.count(15), 25);
        }
    }

    private static void halving() {
        Cache x = new Cache(8, 0, 0);
        int puts = 0;
        while (puts < 79) {
            x.put(puts * 7 % 1000, 1, 1, 0);
            puts++;
        }
        x.maintain();
        Sheet.due("added", x.count(15), 79);
        x.put(1, 1, 1, 0);
        x.maintain();
        // 12 counts were odd: (80 - 12 / 4) / 2.
        Sheet.due("added behind halving", x.count(15), 38);
        Sheet.due("often(7), 9 before", x.often(7), 4);
        Sheet.due("often(4), 6 before", x.often(4), 3);
        Sheet.due("often(2), 0 before", x.often(2), 0);
    }

    private static void promise14() {
        Sheet.ask("promise 14");
        Cache x = new Cache(4, 0, 0);
        Sheet.due("at(0, 0) of a new one", x.at(0, 0), Sheet.NONE);
        Sheet.putAll(x, 1, 2, 3);
        Sheet.due("at(0, 0) before maintenance", x.at(0, 0), Sheet.NONE);
        x.maintain();
        x.get(2);
        x.maintain();
        Sheet.dueRoom(x, 0, 3);
        Sheet.dueRoom(x, 1, 1);
        Sheet.dueRoom(x, 2, 2);
        Sheet.due("at(-1, 0)", x.at(-1, 0), Sheet.NONE);
        Sheet.due("at(3, 0)", x.at(3, 0), Sheet.NONE);
        Sheet.due("at(0, -1)", x.at(0, -1), Sheet.NONE);
        Sheet.due("at(0, most)", x.at(0, Integer.MAX_VALUE), Sheet.NONE);
        Sheet.due("at(2, least)", x.at(2, Integer.MIN_VALUE), Sheet.NONE);
    }

    private static void promise15() {
        Sheet.ask("promise 15");
        Cache x = new Cache(1, 5, 0);
        Sheet.due("listened(0, 0) of a new one", x.listened(0, 0), Sheet.NONE);
        x.put(1, 10, 1, 0);
        x.put(1, 11, 1, 0);
        x.remove(1);
        Sheet.putAll(x, 2, 3);
        x.maintain();
        x.advance(5);
        x.maintain();
        Sheet.dueLog(x, 0, 1, 10, Sheet.REPLACED);
        Sheet.dueLog(x, 1, 1, 11, Sheet.EXPLICIT);
        Sheet.dueLog(x, 2, 2, 20, Sheet.EVICTED);
        Sheet.dueLog(x, 3, 3, 30, Sheet.EXPIRED);
        Sheet.due("listened(4, 0)", x.listened(4, 0), Sheet.NONE);
        Sheet.due("listened(-1, 0)", x.listened(-1, 0), Sheet.NONE);
        Sheet.due("listened(0, -1)", x.listened(0, -1), Sheet.NONE);
        Sheet.due("listened(0, 3)", x.listened(0, 3), Sheet.NONE);
        Cache many = new Cache(1, 0, 0);
        for (int value = 0; value < 505; value++) {
            many.put(3, value, 1, 0);
        }
        Sheet.due("listened(499, 1)", many.listened(499, 1), 499);
        Sheet.due("listened(500, 1)", many.listened(500, 1), Sheet.NONE);
        listenedBeforeMaintenance();
    }

    private static void listenedBeforeMaintenance() {
        Cache x = new Cache(1, 0, 0);
        Sheet.putAll(x, 1, 2, 3, 4, 5, 6, 7);
        x.put(7, 71, 1, 0);
        Sheet.dueLog(x, 0, 7, 70, Sheet.REPLACED);
        Sheet.dueLog(x, 1, 1, 10, Sheet.EVICTED);
        Sheet.dueLog(x, 6, 6, 60, Sheet.EVICTED);
        Sheet.putAll(x, 8, 9, 10, 11, 12, 13, 14);
        x.remove(14);
        Sheet.dueLog(x, 7, 14, 140, Sheet.EXPLICIT);
    }
}

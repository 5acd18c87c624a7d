import java.util.List;

/** The Terms on THE ROOMS, TOUCHED, and MAINTENANCE up to its fourth step. */
final class RoomBoundaries {
    private RoomBoundaries() {
    }

    static List<Held> all() {
        return List.of(
            new Held("THE ROOMS, in order of how lately their entries were touched: WINDOW, PROBATION, PROTECTED; each has the"
                + " weights of its entries, as they are now.", RoomBoundaries::weightsAsTheyAreNow),
            new Held("The WINDOW has room for W, at first MAX / 100, at least 1;", RoomBoundaries::firstW),
            new Held("PROTECTED for (MAX - W) * 4 / 5.", RoomBoundaries::roomOfProtected),
            new Held("TOUCHED, an entry in the window or in protected becomes the latest there; one in probation the latest in"
                + " protected;", RoomBoundaries::touched),
            new Held("behind either, while protected has more than room for, its earliest becomes the latest in probation.",
                RoomBoundaries::tooMuchInProtected),
            new Held("1. Notes, those of the even keys first, in order: of entries that are still in a room: the key is counted,"
                + " the entry touched.", RoomBoundaries::notesOfEntriesInRooms),
            new Held("2. Tasks, in order.", RoomBoundaries::tasksInOrder),
            new Held("NEW: the key is counted; the entry becomes the latest in the window (not if it has gone meanwhile).",
                RoomBoundaries::newTasks),
            new Held("CHANGED: the key is counted; the entry is touched, if it is in a room.", RoomBoundaries::changedTasks),
            new Held("GONE: it leaves its room.", RoomBoundaries::goneTasks),
            new Held("3. Entries in rooms that are over go, EXPIRED, by their ends, those with the same by their keys.",
                RoomBoundaries::overOnesGo),
            new Held("4. While the window has more than W: its earliest becomes the latest in probation, a CANDIDATE.",
                RoomBoundaries::tooMuchInWindow));
    }

    /** Key 1 in protected, 2 in probation, 3 in the window, nothing in the buffers. */
    private static Cache withOneInEachRoom(int max) {
        Cache x = new Cache(max, 0, 0);
        Sheet.putAll(x, 1, 2, 3);
        x.maintain();
        x.get(1);
        x.maintain();
        Sheet.dueRoom(x, Sheet.WINDOW, 3);
        Sheet.dueRoom(x, Sheet.PROBATION, 2);
        Sheet.dueRoom(x, Sheet.PROTECTED, 1);
        return x;
    }

    private static void weightsAsTheyAreNow() {
        Cache x = withOneInEachRoom(20);
        x.put(3, 31, 5, 0);
        Sheet.dueCount(x, Sheet.IN_WINDOW, 5);
        x.put(2, 21, 4, 0);
        Sheet.dueCount(x, Sheet.IN_PROBATION, 4);
        x.put(1, 11, 3, 0);
        Sheet.dueCount(x, Sheet.IN_PROTECTED, 3);
        Sheet.dueCount(x, Sheet.IN_ROOMS, 12);
        x.put(3, 32, 1, 0);
        Sheet.dueCount(x, Sheet.IN_WINDOW, 1);
        x.refresh(2);
        x.finish(2, 22, 6);
        Sheet.dueCount(x, Sheet.IN_PROBATION, 6);
        x.remove(1);
        Sheet.due("protected until GONE is worked off", x.count(Sheet.IN_PROTECTED), 3);
        x.put(9, 90, 7, 0);
        Sheet.due("rooms until NEW is worked off", x.count(Sheet.IN_ROOMS), 10);
        Sheet.due("maintain()", x.maintain(), 14);
        Cache y = new Cache(20, 0, 0);
        y.put(1, 10, 7, 0);
        y.put(1, 11, 2, 0);
        Sheet.due("a weight changed before the room", y.maintain(), 2);
    }

    private static void firstW() {
        int[][] maxAndW = {{1, 1}, {2, 1}, {99, 1}, {100, 1}, {101, 1}, {199, 1}, {200, 2}, {299, 2}, {300, 3}, {4999, 49}, {5000, 50}};
        for (int[] pair : maxAndW) {
            Cache x = new Cache(pair[0], 0, 0);
            Sheet.due("W of " + pair[0], x.count(Sheet.W), pair[1]);
            x.put(1, 10, pair[1], 0);
            x.maintain();
            Sheet.due("a window full with " + pair[0], x.count(Sheet.IN_WINDOW), pair[1]);
            x.put(1, 10, pair[1] + 1, 0);
            x.maintain();
            Sheet.due("a window with too much of " + pair[0], x.count(Sheet.IN_WINDOW), 0);
        }
    }

    private static void roomOfProtected() {
        int[][] maxAndRoom = {{2, 0}, {3, 1}, {4, 2}, {5, 3}, {6, 4}, {7, 4}, {8, 5}, {100, 79}, {199, 158}, {200, 158}, {201, 159}, {1000, 792}};
        for (int[] pair : maxAndRoom) {
            for (int more = 0; more < 2; more++) {
                int weight = pair[1] + more;
                if (weight > 0) {
                    Cache x = new Cache(pair[0], 0, 0);
                    x.put(1, 10, weight, 0);
                    // Where the first one fits into the window, a second one drives it out.
                    x.put(2, 20, 1, 0);
                    x.maintain();
                    x.get(1);
                    x.maintain();
                    Sheet.due("protected with " + weight + " of " + pair[0], x.count(Sheet.IN_PROTECTED), more == 0 ? weight : 0);
                }
            }
        }
        Cache least = new Cache(1, 0, 0);
        Sheet.putAll(least, 1);
        least.maintain();
        least.get(1);
        least.maintain();
        Sheet.dueCount(least, Sheet.IN_PROTECTED, 0);
    }

    private static void touched() {
        Cache window = new Cache(300, 0, 0);
        Sheet.putAll(window, 2, 4, 6);
        window.maintain();
        Sheet.dueRoom(window, Sheet.WINDOW, 2, 4, 6);
        window.get(4);
        window.maintain();
        Sheet.dueRoom(window, Sheet.WINDOW, 2, 6, 4);
        window.get(4);
        window.get(2);
        window.maintain();
        Sheet.dueRoom(window, Sheet.WINDOW, 6, 4, 2);
        Sheet.dueRoom(window, Sheet.PROTECTED);
        Cache x = new Cache(20, 0, 0);
        Sheet.putAll(x, 2, 4, 6, 8, 9);
        x.maintain();
        Sheet.dueRoom(x, Sheet.PROBATION, 2, 4, 6, 8);
        x.get(6);
        x.get(4);
        x.get(2);
        x.maintain();
        Sheet.dueRoom(x, Sheet.PROBATION, 8);
        Sheet.dueRoom(x, Sheet.PROTECTED, 6, 4, 2);
        x.get(6);
        x.maintain();
        Sheet.dueRoom(x, Sheet.PROTECTED, 4, 2, 6);
        x.get(2);
        x.get(6);
        x.maintain();
        Sheet.dueRoom(x, Sheet.PROTECTED, 4, 2, 6);
        Sheet.dueRoom(x, Sheet.WINDOW, 9);
    }

    private static void tooMuchInProtected() {
        Cache x = new Cache(6, 0, 0);
        Sheet.putAll(x, 2, 4, 6, 8, 10, 12);
        x.maintain();
        x.get(2);
        x.get(4);
        x.get(6);
        x.get(8);
        x.maintain();
        Sheet.dueRoom(x, Sheet.PROTECTED, 2, 4, 6, 8);
        Sheet.dueRoom(x, Sheet.PROBATION, 10);
        x.get(10);
        x.maintain();
        Sheet.dueRoom(x, Sheet.PROTECTED, 4, 6, 8, 10);
        Sheet.dueRoom(x, Sheet.PROBATION, 2);
        x.put(8, 81, 3, 0);
        x.remove(12);
        x.remove(2);
        x.maintain();
        // 8 has become the latest with a weight of 3: 4 and 6 had to leave.
        Sheet.dueRoom(x, Sheet.PROTECTED, 10, 8);
        Sheet.dueRoom(x, Sheet.PROBATION, 4, 6);
        oneTooHeavyForProtected();
        behindATouchInTheWindow();
    }

    private static void oneTooHeavyForProtected() {
        for (int weight = 4; weight <= 5; weight++) {
            Cache x = new Cache(6, 0, 0);
            Sheet.putAll(x, 2);
            x.put(4, 40, weight, 0);
            x.maintain();
            x.get(2);
            x.maintain();
            Sheet.dueRoom(x, Sheet.PROTECTED, 2);
            x.get(4);
            x.maintain();
            if (weight == 4) {
                Sheet.dueRoom(x, Sheet.PROTECTED, 4);
                Sheet.dueRoom(x, Sheet.PROBATION, 2);
            } else {
                Sheet.dueRoom(x, Sheet.PROTECTED);
                Sheet.dueRoom(x, Sheet.PROBATION, 2, 4);
            }
        }
    }

    /** Keys 2, 4 (of weight 2) and 6 fill protected, 8 the window. */
    private static Cache withProtectedFull() {
        Cache x = new Cache(6, 0, 0);
        x.put(2, 20, 1, 0);
        x.put(4, 40, 2, 0);
        x.put(6, 60, 1, 0);
        x.put(8, 80, 1, 0);
        x.maintain();
        x.get(2);
        x.get(4);
        x.get(6);
        x.maintain();
        Sheet.dueRoom(x, Sheet.PROTECTED, 2, 4, 6);
        Sheet.dueRoom(x, Sheet.WINDOW, 8);
        return x;
    }

    /** A weight that has grown makes protected too heavy until its task is due; a note comes before that. */
    private static void behindATouchInTheWindow() {
        for (int noted = 0; noted < 2; noted++) {
            Cache x = withProtectedFull();
            Sheet.getTimes(x, 8, noted);
            x.remove(4);
            x.put(6, 61, 2, 0);
            x.maintain();
            if (noted == 0) {
                Sheet.dueRoom(x, Sheet.PROTECTED, 2, 6);
                Sheet.dueRoom(x, Sheet.PROBATION);
            } else {
                Sheet.dueRoom(x, Sheet.PROTECTED, 6);
                Sheet.dueRoom(x, Sheet.PROBATION, 2);
            }
            Sheet.dueRoom(x, Sheet.WINDOW, 8);
        }
    }

    private static void notesOfEntriesInRooms() {
        Cache order = new Cache(20, 0, 0);
        Sheet.putAll(order, 1, 2, 3, 4, 9);
        order.maintain();
        order.get(3);
        order.get(4);
        order.get(1);
        order.get(2);
        order.maintain();
        Sheet.dueRoom(order, Sheet.PROTECTED, 4, 2, 3, 1);
        Cache notYet = new Cache(20, 0, 0);
        Sheet.putAll(notYet, 1, 2);
        Sheet.getTimes(notYet, 1, 3);
        notYet.maintain();
        Sheet.due("often(1), noted before it was in a room", notYet.often(1), 1);
        Sheet.dueRoom(notYet, Sheet.PROBATION, 1);
        Sheet.getTimes(notYet, 1, 3);
        notYet.maintain();
        Sheet.due("often(1), noted in a room", notYet.often(1), 4);
        Cache removed = new Cache(20, 0, 0);
        Sheet.putAll(removed, 1, 2);
        removed.maintain();
        removed.get(1);
        removed.remove(1);
        removed.maintain();
        Sheet.due("often(1), noted, in its room until GONE", removed.often(1), 2);
        Cache over = new Cache(20, 5, 0);
        Sheet.putAll(over, 1, 2);
        over.maintain();
        over.get(1);
        over.advance(5);
        over.maintain();
        Sheet.due("often(1), noted, in its room though over", over.often(1), 2);
        Cache goneBefore = new Cache(20, 0, 0);
        Sheet.putAll(goneBefore, 1);
        goneBefore.get(1);
        goneBefore.remove(1);
        goneBefore.maintain();
        Sheet.due("often(1), never in a room", goneBefore.often(1), 1);
    }

    private static void tasksInOrder() {
        Cache x = new Cache(300, 0, 0);
        Sheet.putAll(x, 1, 2, 3);
        x.maintain();
        Sheet.putAll(x, 2);
        x.remove(3);
        Sheet.putAll(x, 3, 1);
        x.maintain();
        Sheet.dueRoom(x, Sheet.WINDOW, 2, 3, 1);
        Sheet.putAll(x, 3, 2, 3);
        x.maintain();
        Sheet.dueRoom(x, Sheet.WINDOW, 1, 2, 3);
    }

    private static void newTasks() {
        Cache x = new Cache(300, 0, 0);
        Sheet.putAll(x, 1, 2);
        x.maintain();
        Sheet.dueRoom(x, Sheet.WINDOW, 1, 2);
        Sheet.due("often(2)", x.often(2), 1);
        Sheet.putAll(x, 3);
        x.remove(3);
        Sheet.due("maintain()", x.maintain(), 2);
        Sheet.dueRoom(x, Sheet.WINDOW, 1, 2);
        Sheet.due("often(3), gone meanwhile", x.often(3), 1);
        goneBeforeItCouldBeTouched();
        Cache over = new Cache(300, 5, 0);
        Sheet.putAll(over, 1);
        over.advance(5);
        over.maintain();
        // One that is over has not gone yet: it goes by the third step, not by the second.
        Sheet.due("often(1), over meanwhile", over.often(1), 1);
        Sheet.dueLog(over, 0, 1, 10, Sheet.EXPIRED);
        Sheet.dueRoom(over, Sheet.WINDOW);
    }

    /**
     * Had the one that has gone come to the window, until its GONE, its CHANGED would have been a touch there, and
     * that would have driven 2 out of a protected that has too much until the GONE of 4.
     */
    private static void goneBeforeItCouldBeTouched() {
        for (int gone = 0; gone < 2; gone++) {
            Cache x = withProtectedFull();
            Sheet.putAll(x, 10, 10);
            if (gone == 1) {
                x.remove(10);
            }
            x.remove(4);
            x.put(6, 61, 2, 0);
            x.maintain();
            if (gone == 1) {
                Sheet.dueRoom(x, Sheet.PROTECTED, 2, 6);
            } else {
                Sheet.dueRoom(x, Sheet.PROTECTED, 6);
            }
        }
    }

    private static void changedTasks() {
        Cache x = withOneInEachRoom(20);
        Sheet.putAll(x, 2);
        x.maintain();
        Sheet.dueRoom(x, Sheet.PROTECTED, 1, 2);
        Sheet.due("often(2)", x.often(2), 2);
        Sheet.putAll(x, 1);
        x.maintain();
        Sheet.dueRoom(x, Sheet.PROTECTED, 2, 1);
        Cache gone = new Cache(20, 0, 0);
        Sheet.putAll(gone, 1, 1, 1);
        gone.remove(1);
        Sheet.due("maintain()", gone.maintain(), 0);
        Sheet.due("often(1), changed, in no room", gone.often(1), 3);
        Cache stillThere = new Cache(20, 0, 0);
        Sheet.putAll(stillThere, 1, 2);
        stillThere.maintain();
        Sheet.putAll(stillThere, 1);
        stillThere.remove(1);
        Sheet.due("maintain()", stillThere.maintain(), 1);
        Sheet.due("often(1), changed, then gone", stillThere.often(1), 2);
    }

    private static void goneTasks() {
        for (int key = 1; key <= 3; key++) {
            Cache x = withOneInEachRoom(20);
            x.remove(key);
            Sheet.due("rooms before", x.count(Sheet.IN_ROOMS), 3);
            Sheet.due("maintain()", x.maintain(), 2);
            Sheet.due("in the room of " + key, x.count(key == 1 ? Sheet.IN_PROTECTED : key == 2 ? Sheet.IN_PROBATION : Sheet.IN_WINDOW), 0);
            Sheet.due("often, not counted again", x.often(key), key == 1 ? 2 : 1);
        }
        Cache none = new Cache(20, 0, 0);
        Sheet.putAll(none, 1, 2);
        none.remove(1);
        Sheet.due("maintain(), gone without a room", none.maintain(), 1);
        Sheet.dueRoom(none, Sheet.WINDOW, 2);
    }

    private static void overOnesGo() {
        Cache x = new Cache(100, 0, 0);
        x.put(9, 90, 1, 7);
        x.put(5, 50, 1, 7);
        x.put(7, 70, 1, 3);
        x.put(8, 80, 1, 8);
        x.put(1, 10, 1, 7);
        x.put(6, 60, 1, 0);
        x.put(3, 30, 1, 7);
        x.maintain();
        x.get(9);
        x.get(7);
        x.maintain();
        Sheet.dueRoom(x, Sheet.WINDOW, 3);
        Sheet.dueRoom(x, Sheet.PROBATION, 5, 8, 1, 6);
        Sheet.dueRoom(x, Sheet.PROTECTED, 9, 7);
        x.advance(2);
        Sheet.due("maintain() before an end", x.maintain(), 7);
        Sheet.dueLogEnd(x, 0);
        x.advance(5);
        Sheet.due("maintain() at five ends", x.maintain(), 2);
        Sheet.dueLog(x, 0, 7, 70, Sheet.EXPIRED);
        Sheet.dueLog(x, 1, 1, 10, Sheet.EXPIRED);
        Sheet.dueLog(x, 2, 3, 30, Sheet.EXPIRED);
        Sheet.dueLog(x, 3, 5, 50, Sheet.EXPIRED);
        Sheet.dueLog(x, 4, 9, 90, Sheet.EXPIRED);
        Sheet.dueLogEnd(x, 5);
        x.advance(1);
        Sheet.due("maintain() at the next end", x.maintain(), 1);
        Sheet.dueLog(x, 5, 8, 80, Sheet.EXPIRED);
        Sheet.dueRoom(x, Sheet.PROBATION, 6);
        Sheet.dueCount(x, Sheet.EVICTIONS, 0);
        Cache makeRoom = new Cache(3, 0, 0);
        makeRoom.put(1, 10, 1, 0);
        makeRoom.put(2, 20, 1, 5);
        makeRoom.put(3, 30, 1, 0);
        makeRoom.maintain();
        makeRoom.advance(5);
        Sheet.putAll(makeRoom, 4);
        makeRoom.maintain();
        // What is over goes before there is too much: nothing is evicted.
        Sheet.dueLog(makeRoom, 0, 2, 20, Sheet.EXPIRED);
        Sheet.dueLogEnd(makeRoom, 1);
    }

    private static void tooMuchInWindow() {
        Cache x = new Cache(200, 0, 0);
        Sheet.putAll(x, 1, 2);
        x.maintain();
        Sheet.dueRoom(x, Sheet.WINDOW, 1, 2);
        Sheet.dueRoom(x, Sheet.PROBATION);
        Sheet.putAll(x, 3);
        x.maintain();
        Sheet.dueRoom(x, Sheet.WINDOW, 2, 3);
        Sheet.dueRoom(x, Sheet.PROBATION, 1);
        Sheet.putAll(x, 4, 5);
        x.maintain();
        Sheet.dueRoom(x, Sheet.WINDOW, 4, 5);
        Sheet.dueRoom(x, Sheet.PROBATION, 1, 2, 3);
        x.put(6, 60, 2, 0);
        x.maintain();
        Sheet.dueRoom(x, Sheet.WINDOW, 6);
        Sheet.dueRoom(x, Sheet.PROBATION, 1, 2, 3, 4, 5);
        x.put(7, 70, 3, 0);
        x.maintain();
        Sheet.dueRoom(x, Sheet.WINDOW);
        Sheet.dueRoom(x, Sheet.PROBATION, 1, 2, 3, 4, 5, 6, 7);
    }
}

import java.util.List;

/** The Terms on MAINTENANCE from its fifth step on: victims, candidates, draws, the climb. */
final class EvictionBoundaries {
    private static final int NOBODY = 901;

    private EvictionBoundaries() {
    }

    static List<Held> all() {
        return List.of(
            new Held("5. While all rooms together have more than MAX:", EvictionBoundaries::moreThanMax),
            new Held("VICTIM is the earliest of probation, or of protected if there are none, or of the window;",
                EvictionBoundaries::victims),
            new Held("CANDIDATE the earliest of those that came by 4 and are still in probation and not looked at yet.",
                EvictionBoundaries::candidates),
            new Held("Without a candidate, or if that is the victim: the victim goes, EVICTED.", EvictionBoundaries::noDuel),
            new Held("If the candidate was asked for more often than the victim, the victim goes;", EvictionBoundaries::moreOften),
            new Held("else, if no more than 5 times, the candidate;", EvictionBoundaries::fiveTimes),
            new Held("else the next DRAW says: the victim if it is a multiple of 128, else the candidate.",
                EvictionBoundaries::multipleOf128),
            new Held("(A candidate that stays is not looked at any more.)", EvictionBoundaries::lookedAtOnce),
            new Held("6. CLIMB.", EvictionBoundaries::climbComesLast),
            new Held("DRAWS: x, at first 1: x ^= x << 13; x ^= x >>> 17; x ^= x << 5, in ints; the draw is x.",
                EvictionBoundaries::draws),
            new Held("CLIMB: if hits and misses since the latest climb are at least 10 * MAX:", EvictionBoundaries::climbIsDue),
            new Held("RATE is 1000 * hits / (hits and misses) of these (cut).", EvictionBoundaries::rateIsCut),
            new Held("If it is not below that before (0 at first) the way stays, else it turns (up at first).",
                EvictionBoundaries::wayTurns),
            new Held("STEP is at first MAX / 16, at least 1;", EvictionBoundaries::firstStep),
            new Held("behind a climb where the rate differs by 50 or more from that before it is so again, else 63 / 64 of what it was"
                + " (cut), at least 1.", EvictionBoundaries::stepIsAtLeastOne),
            new Held("W becomes STEP more, at most MAX - 1, or STEP less (STEP as it was before this), at least 1 in any case.",
                EvictionBoundaries::endsOfW),
            new Held("Then, if up: again and again the earliest of probation, else of protected, becomes the latest of the window, as"
                + " long as the window has no more than W with it;", EvictionBoundaries::windowTakes),
            new Held("if down: while the window has more than W, its earliest becomes the latest in probation;",
                EvictionBoundaries::windowGives),
            new Held("behind that, in both ways, while protected has more than room for, as above.",
                EvictionBoundaries::protectedGives));
    }

    private static void moreThanMax() {
        Cache x = new Cache(3, 0, 0);
        Sheet.putAll(x, 1, 2, 3);
        Sheet.due("maintain() with MAX", x.maintain(), 3);
        Sheet.dueCount(x, Sheet.EVICTIONS, 0);
        Sheet.putAll(x, 4);
        Sheet.due("maintain() with one more", x.maintain(), 3);
        Sheet.dueCount(x, Sheet.EVICTIONS, 1);
        Sheet.putAll(x, 5, 6, 7, 8);
        Sheet.due("maintain() with four more", x.maintain(), 3);
        Sheet.dueCount(x, Sheet.EVICTIONS, 5);
        Cache heavy = new Cache(10, 0, 0);
        heavy.put(1, 10, 4, 0);
        heavy.put(2, 20, 4, 0);
        heavy.put(3, 30, 3, 0);
        Sheet.due("maintain() with 11 in three", heavy.maintain(), 7);
        Sheet.dueCount(heavy, Sheet.EVICTED_WEIGHT, 4);
    }

    /**
     * Behind step 4 the window has at most W and protected at most (MAX - W) * 4 / 5: with more than MAX
     * there is always one in probation, and no run comes to a victim elsewhere.
     */
    private static void victims() {
        Cache x = new Cache(5, 0, 0);
        Sheet.putAll(x, 1, 2, 3, 4, 5);
        x.maintain();
        Sheet.dueRoom(x, Sheet.PROBATION, 1, 2, 3, 4);
        x.put(3, 31, 2, 0);
        x.maintain();
        Sheet.dueLog(x, 1, 1, 10, Sheet.EVICTED);
        x.put(3, 32, 3, 0);
        x.maintain();
        Sheet.dueLog(x, 3, 2, 20, Sheet.EVICTED);
        Sheet.dueRoom(x, Sheet.PROBATION, 4);
        Sheet.dueRoom(x, Sheet.PROTECTED, 3);
        Sheet.dueRoom(x, Sheet.WINDOW, 5);
        x.put(3, 33, 4, 0);
        x.maintain();
        // Too heavy for protected, 3 has become the latest of probation: 4 is the earliest still.
        Sheet.dueLog(x, 5, 4, 40, Sheet.EVICTED);
        x.put(3, 34, 5, 0);
        x.maintain();
        Sheet.dueLog(x, 7, 3, 34, Sheet.EVICTED);
        Sheet.dueRoom(x, Sheet.WINDOW, 5);
    }

    private static void candidates() {
        Cache x = new Cache(3, 0, 0);
        Sheet.putAll(x, 1, 2, 3);
        x.maintain();
        Sheet.dueRoom(x, Sheet.PROBATION, 1, 2);
        Sheet.getTimes(x, 3, 2);
        Sheet.putAll(x, 4, 5);
        x.maintain();
        // 3 is looked at first and stays in place of 1; then 4, against 2.
        Sheet.dueLog(x, 0, 1, 10, Sheet.EVICTED);
        Sheet.dueLog(x, 1, 4, 40, Sheet.EVICTED);
        Sheet.dueLogEnd(x, 2);
        Sheet.dueRoom(x, Sheet.PROBATION, 2, 3);
        Sheet.dueRoom(x, Sheet.WINDOW, 5);
        Cache earlier = new Cache(3, 0, 0);
        Sheet.putAll(earlier, 1, 2, 3);
        earlier.maintain();
        Sheet.putAll(earlier, 4);
        earlier.maintain();
        // 1 and 2 came by step 4 of the maintenance before: the candidate is 3.
        Sheet.dueLog(earlier, 0, 3, 30, Sheet.EVICTED);
        Sheet.dueRoom(earlier, Sheet.PROBATION, 1, 2);
    }

    private static void noDuel() {
        Cache without = new Cache(4, 0, 0);
        Sheet.putAll(without, 1);
        without.maintain();
        Sheet.getTimes(without, 1, 14);
        without.maintain();
        Sheet.putAll(without, 2, 3);
        without.maintain();
        Sheet.dueRoom(without, Sheet.PROBATION, 1, 2);
        without.put(2, 21, 2, 0);
        without.maintain();
        Sheet.dueLogEnd(without, 1);
        without.put(2, 22, 1, 0);
        Sheet.putAll(without, 4);
        without.maintain();
        Sheet.dueRoom(without, Sheet.PROBATION, 1, 3);
        without.put(2, 23, 2, 0);
        without.maintain();
        // Nothing came by step 4: 1 goes, however often it was asked for.
        Sheet.due("often(1)", without.often(1), 15);
        Sheet.dueLog(without, 3, 1, 10, Sheet.EVICTED);
        theVictimItself();
    }

    /** A candidate that is the victim takes no draw, though asked for more than 5 times: the draws behind it are as ever. */
    private static void theVictimItself() {
        Cache x = new Cache(Duels.MAX, 0, 0);
        x.put(500, 1, 1, 0);
        x.maintain();
        Sheet.getTimes(x, 500, 14);
        x.maintain();
        for (int key = 500; key <= 504; key++) {
            x.put(key, 2, Duels.WEIGHT, 0);
        }
        x.maintain();
        Sheet.due("often(500)", x.often(500), 15);
        Sheet.dueLog(x, 1, 500, 2, Sheet.EVICTED);
        Sheet.dueRoom(x, Sheet.PROBATION, 501, 502, 503, 504);
        for (int key = 501; key <= 504; key++) {
            x.remove(key);
        }
        Duels duels = new Duels(x, 6);
        duels.play(64);
        duels.dueLog(62, 64);
    }

    private static void moreOften() {
        for (int victim = 1; victim <= 5; victim++) {
            for (int candidate = 1; candidate <= 5; candidate++) {
                Cache x = new Cache(2, 0, 0);
                Sheet.putAll(x, 1);
                x.maintain();
                Sheet.getTimes(x, 1, victim - 1);
                x.maintain();
                Sheet.putAll(x, 2);
                x.maintain();
                Sheet.getTimes(x, 2, candidate - 1);
                x.maintain();
                Sheet.due("often(1)", x.often(1), victim);
                Sheet.due("often(2)", x.often(2), candidate);
                Sheet.putAll(x, 3);
                x.maintain();
                int loser = candidate > victim ? 1 : 2;
                Sheet.due("evicted, " + candidate + " against " + victim, x.listened(0, 0), loser);
                Sheet.due("probation behind that", x.at(Sheet.PROBATION, 0), 3 - loser);
            }
        }
    }

    /** Candidates take draws from their sixth time on; had they taken some by the fifth, the 63rd came too early. */
    private static void fiveTimes() {
        Cache x = new Cache(Duels.MAX, 0, 0);
        Duels duels = new Duels(x, 0);
        Sheet.due("candidates that went", x.count(Sheet.EVICTIONS), Duels.CANDIDATES * 5);
        Sheet.due("often of a candidate", x.often(Duels.FIRST_CANDIDATE), 5);
        duels.play(64);
        Sheet.due("the first draw that is a multiple", duels.luckyDraws.get(0), 63);
        duels.dueLog(1, 64);
    }

    /** Among the first 344 draws four are multiples of 128, the last of them a negative one. */
    private static void multipleOf128() {
        Cache x = new Cache(Duels.MAX, 0, 0);
        Duels duels = new Duels(x, 0);
        duels.play(344);
        Sheet.due("draws that are multiples", duels.luckyDraws.size(), 4);
        for (int lucky : duels.luckyDraws) {
            duels.dueLog(lucky - 1, lucky);
        }
    }

    private static void draws() {
        Cache x = new Cache(Duels.MAX, 0, 0);
        Duels duels = new Duels(x, 0);
        duels.play(319);
        duels.dueLog(1, 1);
        duels.dueLog(50, 70);
        duels.dueLog(123, 123);
        duels.dueLog(310, 319);
    }

    private static void lookedAtOnce() {
        Cache x = new Cache(5, 0, 0);
        Sheet.putAll(x, 9, 1);
        x.maintain();
        x.get(9);
        x.maintain();
        Sheet.putAll(x, 2);
        x.maintain();
        Sheet.getTimes(x, 2, 3);
        x.maintain();
        Sheet.putAll(x, 3);
        x.maintain();
        Sheet.getTimes(x, 3, 2);
        x.maintain();
        Sheet.dueRoom(x, Sheet.PROBATION, 1, 2);
        Sheet.due("often(2)", x.often(2), 4);
        Sheet.due("often(3)", x.often(3), 3);
        Sheet.putAll(x, 4);
        x.put(9, 91, 3, 0);
        x.maintain();
        // 3 stays in place of 1; then 2 goes, asked for more often than 3, since 3 is no candidate any more.
        Sheet.dueLog(x, 1, 1, 10, Sheet.EVICTED);
        Sheet.dueLog(x, 2, 2, 20, Sheet.EVICTED);
        Sheet.dueRoom(x, Sheet.PROBATION, 3);
    }

    private static void climbComesLast() {
        Cache x = new Cache(3, 0, 0);
        Sheet.putAll(x, 1, 2, 3);
        x.maintain();
        Sheet.getTimes(x, NOBODY, 30);
        Sheet.putAll(x, 4);
        x.maintain();
        // With W of 2 already in step 4, 3 would have stayed in the window.
        Sheet.dueLog(x, 0, 3, 30, Sheet.EVICTED);
        Sheet.dueCount(x, Sheet.W, 2);
        Sheet.dueRoom(x, Sheet.WINDOW, 4, 1);
        Sheet.dueRoom(x, Sheet.PROBATION, 2);
    }

    private static void climbIsDue() {
        for (int max : new int[] {4, 7, 16, 20}) {
            for (int hits = 0; hits < 2; hits++) {
                Cache x = new Cache(max, 0, 0);
                Sheet.putAll(x, 1);
                x.maintain();
                int asked = hits == 1 ? 1 : NOBODY;
                Sheet.getTimes(x, asked, 10 * max - 1);
                x.maintain();
                Sheet.due("W of " + max + ", one too few", x.count(Sheet.W), 1);
                x.get(asked);
                Sheet.due("W of " + max + ", before maintenance", x.count(Sheet.W), 1);
                x.maintain();
                Sheet.due("W of " + max + ", climbed", x.count(Sheet.W), 2);
                x.maintain();
                Sheet.getTimes(x, asked, 10 * max - 1);
                x.maintain();
                Sheet.due("W of " + max + ", one too few again", x.count(Sheet.W), 2);
                x.get(asked);
                x.maintain();
                Sheet.due("W of " + max + ", climbed again", x.count(Sheet.W), 3);
            }
        }
        Cache late = new Cache(4, 0, 0);
        Sheet.getTimes(late, NOBODY, 79);
        late.maintain();
        Sheet.getTimes(late, NOBODY, 39);
        late.maintain();
        Sheet.due("W, what was asked before the climb does not count", late.count(Sheet.W), 2);
        late.load(NOBODY);
        late.maintain();
        Sheet.due("W, a load is asked, too", late.count(Sheet.W), 3);
    }

    /** One more climb, with so many hits and misses. */
    private static void climb(Cache x, int hits, int misses) {
        Sheet.getTimes(x, 1, hits);
        Sheet.getTimes(x, NOBODY, misses);
        x.maintain();
    }

    private static Cache withKeyOne(int max) {
        Cache x = new Cache(max, 0, 0);
        Sheet.putAll(x, 1);
        return x;
    }

    /** 23 of 41 are 560 of 1000, cut, as are 28 of 50; 33 of 59 are 559. */
    private static void rateIsCut() {
        Cache same = withKeyOne(4);
        climb(same, 23, 18);
        climb(same, 28, 22);
        Sheet.due("W, 560 behind 560.9", same.count(Sheet.W), 3);
        Cache less = withKeyOne(4);
        climb(less, 23, 18);
        climb(less, 33, 26);
        Sheet.due("W, 559 behind 560.9", less.count(Sheet.W), 1);
        Cache fine = withKeyOne(4);
        climb(fine, 26, 20);
        climb(fine, 23, 18);
        Sheet.due("W, 560.9 behind 565.2", fine.count(Sheet.W), 1);
        Cache ofThese = withKeyOne(4);
        climb(ofThese, 40, 0);
        climb(ofThese, 20, 20);
        climb(ofThese, 21, 19);
        Sheet.due("W, 525 behind 500, not of all", ofThese.count(Sheet.W), 1);
        climb(ofThese, 20, 20);
        Sheet.due("W, 500 behind 525", ofThese.count(Sheet.W), 2);
    }

    private static void wayTurns() {
        Cache none = withKeyOne(4);
        climb(none, 0, 40);
        Sheet.due("W, 0 behind 0: up", none.count(Sheet.W), 2);
        climb(none, 0, 40);
        Sheet.due("W, 0 behind 0: up", none.count(Sheet.W), 3);
        Cache x = withKeyOne(8);
        climb(x, 40, 40);
        Sheet.due("W, 500 behind 0: up", x.count(Sheet.W), 2);
        climb(x, 40, 40);
        Sheet.due("W, 500 behind 500: up", x.count(Sheet.W), 3);
        climb(x, 40, 41);
        Sheet.due("W, 493 behind 500: down", x.count(Sheet.W), 2);
        climb(x, 40, 41);
        Sheet.due("W, 493 behind 493: down", x.count(Sheet.W), 1);
        climb(x, 39, 41);
        Sheet.due("W, 487 behind 493: up", x.count(Sheet.W), 2);
        climb(x, 40, 40);
        Sheet.due("W, 500 behind 487: up", x.count(Sheet.W), 3);
    }

    private static void firstStep() {
        int[][] maxAndStep = {{8, 1}, {15, 1}, {16, 1}, {17, 1}, {31, 1}, {32, 2}, {47, 2}, {48, 3}, {50, 3}};
        for (int[] pair : maxAndStep) {
            Cache x = new Cache(pair[0], 0, 0);
            climb(x, 0, 10 * pair[0]);
            Sheet.due("W of " + pair[0] + " behind a climb", x.count(Sheet.W), 1 + pair[1]);
        }
    }

    /**
     * A STEP above 1 needs a MAX of 32 or more, whose second climb needs 640 calls: so it is not seen how
     * STEP shrinks, only that it never becomes 0, however little the rate differs.
     */
    private static void stepIsAtLeastOne() {
        int[][] seconds = {{50, 50}, {56, 46}, {55, 45}, {60, 40}};
        int[] differences = {0, 49, 50, 100};
        for (int i = 0; i < seconds.length; i++) {
            Cache x = withKeyOne(10);
            climb(x, 50, 50);
            climb(x, seconds[i][0], seconds[i][1]);
            climb(x, seconds[i][0], seconds[i][1]);
            Sheet.due("W, a difference of " + differences[i], x.count(Sheet.W), 4);
            climb(x, seconds[i][0], seconds[i][1]);
            Sheet.due("W, then of 0", x.count(Sheet.W), 5);
        }
    }

    private static void endsOfW() {
        int[][] maxAndFour = {{1, 1, 1, 1, 1}, {2, 1, 1, 1, 1}, {3, 2, 2, 2, 2}, {4, 2, 3, 3, 3}, {5, 2, 3, 4, 4}, {6, 2, 3, 4, 5}};
        for (int[] row : maxAndFour) {
            Cache x = new Cache(row[0], 0, 0);
            for (int i = 1; i <= 4; i++) {
                climb(x, 0, 10 * row[0]);
                Sheet.due("W of " + row[0] + " behind climb " + i, x.count(Sheet.W), row[i]);
            }
        }
        Cache down = withKeyOne(4);
        climb(down, 40, 0);
        climb(down, 40, 0);
        Sheet.due("W, up twice", down.count(Sheet.W), 3);
        climb(down, 0, 40);
        Sheet.due("W, down", down.count(Sheet.W), 2);
        climb(down, 0, 40);
        Sheet.due("W, down twice", down.count(Sheet.W), 1);
        climb(down, 0, 40);
        Sheet.due("W, at least 1", down.count(Sheet.W), 1);
        Cache least = withKeyOne(1);
        climb(least, 10, 0);
        climb(least, 0, 10);
        Sheet.due("W of 1, down", least.count(Sheet.W), 1);
    }

    private static void windowTakes() {
        for (int weight = 1; weight <= 2; weight++) {
            Cache x = new Cache(5, 0, 0);
            x.put(2, 20, weight, 0);
            Sheet.putAll(x, 4, 6);
            x.maintain();
            Sheet.dueRoom(x, Sheet.PROBATION, 2, 4);
            climb(x, 0, 50);
            Sheet.dueCount(x, Sheet.W, 2);
            if (weight == 1) {
                Sheet.dueRoom(x, Sheet.WINDOW, 6, 2);
                Sheet.dueRoom(x, Sheet.PROBATION, 4);
            } else {
                Sheet.dueRoom(x, Sheet.WINDOW, 6);
                Sheet.dueRoom(x, Sheet.PROBATION, 2, 4);
            }
        }
        Cache again = new Cache(48, 0, 0);
        Sheet.putAll(again, 2, 4, 6, 8, 10);
        again.maintain();
        climb(again, 0, 480);
        Sheet.dueCount(again, Sheet.W, 4);
        Sheet.dueRoom(again, Sheet.WINDOW, 10, 2, 4, 6);
        Sheet.dueRoom(again, Sheet.PROBATION, 8);
        windowTakesFromProtected();
    }

    private static void windowTakesFromProtected() {
        Cache x = new Cache(33, 0, 0);
        Sheet.putAll(x, 2, 4, 6, 8);
        x.maintain();
        x.get(2);
        x.get(4);
        x.maintain();
        Sheet.dueRoom(x, Sheet.PROBATION, 6);
        climb(x, 0, 330);
        Sheet.dueCount(x, Sheet.W, 3);
        // Probation's one first; then, there being none, the earliest of protected.
        Sheet.dueRoom(x, Sheet.WINDOW, 8, 6, 2);
        Sheet.dueRoom(x, Sheet.PROTECTED, 4);
        Sheet.dueRoom(x, Sheet.PROBATION);
        Cache few = new Cache(33, 0, 0);
        Sheet.putAll(few, 2);
        few.maintain();
        climb(few, 0, 330);
        Sheet.dueRoom(few, Sheet.WINDOW, 2);
        Cache empty = new Cache(33, 0, 0);
        climb(empty, 0, 330);
        Sheet.dueRoom(empty, Sheet.WINDOW);
        Cache heavy = new Cache(5, 0, 0);
        heavy.put(2, 20, 2, 0);
        Sheet.putAll(heavy, 4);
        heavy.maintain();
        heavy.get(2);
        heavy.maintain();
        climb(heavy, 0, 50);
        Sheet.dueRoom(heavy, Sheet.WINDOW, 4);
        Sheet.dueRoom(heavy, Sheet.PROTECTED, 2);
    }

    private static void windowGives() {
        for (int more = 0; more < 2; more++) {
            Cache x = new Cache(5, 0, 0);
            Sheet.putAll(x, 2, 1);
            x.maintain();
            climb(x, 50, 0);
            Sheet.dueCount(x, Sheet.W, 2);
            Sheet.dueRoom(x, Sheet.WINDOW, 1, 2);
            if (more == 0) {
                x.remove(2);
            }
            climb(x, 0, 50);
            Sheet.dueCount(x, Sheet.W, 1);
            if (more == 0) {
                Sheet.dueRoom(x, Sheet.WINDOW, 1);
                Sheet.dueRoom(x, Sheet.PROBATION);
            } else {
                Sheet.dueRoom(x, Sheet.WINDOW, 2);
                Sheet.dueRoom(x, Sheet.PROBATION, 1);
            }
        }
        Cache latest = new Cache(5, 0, 0);
        Sheet.putAll(latest, 2, 4, 1);
        latest.maintain();
        climb(latest, 50, 0);
        Sheet.dueRoom(latest, Sheet.WINDOW, 1, 2);
        Sheet.dueRoom(latest, Sheet.PROBATION, 4);
        climb(latest, 0, 50);
        Sheet.dueRoom(latest, Sheet.WINDOW, 2);
        Sheet.dueRoom(latest, Sheet.PROBATION, 4, 1);
    }

    /** On the way down the room of protected grows, so that it never has more than room for there. */
    private static void protectedGives() {
        Cache x = new Cache(4, 0, 0);
        Sheet.putAll(x, 2, 4, 6, 8);
        x.maintain();
        x.get(2);
        x.get(4);
        x.maintain();
        Sheet.dueRoom(x, Sheet.PROTECTED, 2, 4);
        Sheet.dueRoom(x, Sheet.PROBATION, 6);
        climb(x, 0, 38);
        // W of 2 leaves protected room for (4 - 2) * 4 / 5.
        Sheet.dueRoom(x, Sheet.WINDOW, 8, 6);
        Sheet.dueRoom(x, Sheet.PROTECTED, 4);
        Sheet.dueRoom(x, Sheet.PROBATION, 2);
        Cache enough = new Cache(5, 0, 0);
        Sheet.putAll(enough, 2, 4, 6, 8);
        enough.maintain();
        enough.get(2);
        enough.get(4);
        enough.maintain();
        climb(enough, 0, 48);
        // W of 2 leaves room for (5 - 2) * 4 / 5, as much as protected has.
        Sheet.dueRoom(enough, Sheet.PROTECTED, 2, 4);
        Sheet.dueRoom(enough, Sheet.PROBATION);
        moreThanOneLeavesProtected();
    }

    private static void moreThanOneLeavesProtected() {
        Cache x = new Cache(48, 0, 0);
        Sheet.putAll(x, 2, 4);
        x.put(6, 60, 35, 0);
        Sheet.putAll(x, 8, 10, 12, 14);
        x.maintain();
        x.get(2);
        x.get(4);
        x.get(6);
        x.maintain();
        Sheet.dueCount(x, Sheet.IN_PROTECTED, 37);
        climb(x, 0, 477);
        // W of 4 leaves room for (48 - 4) * 4 / 5, which is 35.
        Sheet.dueRoom(x, Sheet.WINDOW, 14, 8, 10, 12);
        Sheet.dueRoom(x, Sheet.PROTECTED, 6);
        Sheet.dueRoom(x, Sheet.PROBATION, 2, 4);
    }
}

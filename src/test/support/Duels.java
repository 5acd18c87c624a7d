import java.util.ArrayList;
import java.util.List;

/**
 * Duels that draws decide: old entries of a quarter of MAX each, asked for 15 times, fill probation, and
 * candidates come that are as heavy, asked for more than 5 times, but never more than 15.
 */
final class Duels {
    static final int MAX = 4000;
    static final int WEIGHT = 1000;
    static final int FIRST_CANDIDATE = 100;
    static final int CANDIDATES = 12;
    static final int TIMES_WITHOUT_DRAW = 5;

    private static final int[] OLD = {900, 901, 902, 903};
    private static final int TASKS_AT_ONCE = 8;
    private static final long INTS = 1L << 32;

    /** The draws by which victims are to go. */
    final List<Integer> luckyDraws = new ArrayList<>();

    private final Cache x;
    private final int listenedBefore;
    private final List<Integer> dueToGo = new ArrayList<>();
    private final List<Integer> probation = new ArrayList<>();
    private int next;
    private long draw = 1;

    Duels(Cache x, int listenedBefore) {
        this.x = x;
        for (int key : OLD) {
            x.put(key, 1, 1, 0);
        }
        x.maintain();
        for (int key : OLD) {
            // Light ones are in the window, where what is got does not come to protected.
            Sheet.getTimes(x, key, 14);
            x.maintain();
        }
        for (int key : OLD) {
            x.put(key, 1, WEIGHT, 0);
            probation.add(key);
        }
        x.maintain();
        for (int i = 0; i < CANDIDATES * TIMES_WITHOUT_DRAW; i++) {
            x.put(FIRST_CANDIDATE + i % CANDIDATES, 1, WEIGHT, 0);
        }
        x.maintain();
        this.listenedBefore = listenedBefore + OLD.length + CANDIDATES * TIMES_WITHOUT_DRAW;
    }

    void play(int draws) {
        while (dueToGo.size() < draws) {
            int wanted = Math.min(TASKS_AT_ONCE, draws - dueToGo.size());
            List<Integer> candidates = new ArrayList<>();
            while (candidates.size() < wanted) {
                int key = FIRST_CANDIDATE + next;
                next = (next + 1) % CANDIDATES;
                if (!probation.contains(key)) {
                    candidates.add(key);
                    x.put(key, 1, WEIGHT, 0);
                }
            }
            if (wanted < TASKS_AT_ONCE) {
                x.maintain();
            }
            for (int key : candidates) {
                decide(key);
            }
        }
    }

    private void decide(int candidate) {
        nextDraw();
        if (draw % 128 != 0) {
            dueToGo.add(candidate);
            return;
        }
        dueToGo.add(probation.remove(0));
        probation.add(candidate);
        luckyDraws.add(dueToGo.size());
    }

    /** The document's formula in longs, cut to 32 bits by hand. */
    private void nextDraw() {
        draw ^= draw * (1 << 13) % INTS;
        draw ^= draw / (1 << 17);
        draw ^= draw * (1 << 5) % INTS;
    }

    void dueLog(int firstDraw, int lastDraw) {
        for (int d = firstDraw; d <= lastDraw; d++) {
            Sheet.due("evicted by draw " + d, x.listened(listenedBefore + d - 1, 0), dueToGo.get(d - 1));
        }
    }
}

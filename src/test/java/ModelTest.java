import java.util.ArrayList;
import java.util.Comparator;
import java.util.List;

/**
 * Plays runs of calls on WindowCache and on Model, a slow telling of the document by other means
 * (lists, a search for everything), and compares every answer. Some calls of a run only look at the
 * state; with those that are left at its end as much of it is looked at as 512 calls allow.
 */
public final class ModelTest {
    private static final int RUNS = 8000;
    private static final int STATE_ERROR = -1001;
    private static final int ARGUMENT_ERROR = -1002;

    private int seed;
    private int wrong;

    public static void main(String[] args) {
        ModelTest test = new ModelTest();
        Model sum = new Model(1, 0, 0);
        for (int run = 1; run <= RUNS && test.wrong < 20; run++) {
            Model model = test.play(run);
            for (int i = 0; i < sum.seen.length; i++) {
                sum.seen[i] += model.seen[i];
            }
        }
        for (int i = 0; i < sum.seen.length; i++) {
            if (sum.seen[i] == 0 && !Model.OUT_OF_REACH.contains(i)) {
                test.wrong++;
                System.out.println("no run came to " + Model.SEEN[i]);
            }
        }
        System.out.println(test.wrong == 0 ? "class and model agree" : test.wrong + " differences");
        if (test.wrong != 0) {
            System.exit(1);
        }
    }

    /** A fixed row of numbers, so that each run of the test is the same. */
    private int below(int bound) {
        seed = seed * 1103515245 + 12345;
        return (seed >>> 8) % bound;
    }

    private Model play(int run) {
        seed = run * 7919 + 13;
        int[] maxes = {1, 2, 3, 4, 5, 7, 8, 9, 10, 12, 16, 20, 25, 31, 33, 40, 50, 100, 250, 1000, 5000, -3, 9999};
        int max = maxes[below(maxes.length)];
        int write = below(2) == 0 ? 0 : 1 + below(60);
        int touch = below(2) == 0 ? 0 : 1 + below(40);
        int keys = 2 + below(below(3) == 0 ? 60 : 14);
        int most = below(3) == 0 ? 1 + below(8) : below(4) == 0 ? 1000 : 1 + below(2);
        int style = below(4);
        int shape = below(3) == 0 ? 0 : 1;
        Cache cache = new Cache(max, write, touch);
        Model model = new Model(max, write, touch);
        int calls = 60 + below(430);
        int looks = below(3) == 0 ? 1 + below(4) : 0;
        for (int call = 1; call <= calls && cache.callsLeft() > looks; call++) {
            int op = style == 0 ? below(20) : style == 1 ? 4 + below(6) : style == 2 ? below(14) : below(10) == 0 ? below(20) : below(8);
            int base = shape == 0 ? 990 : 0;
            int key = base + (below(3) == 0 ? below(keys) : below(Math.max(1, keys / 3)));
            int weight = 1 + below(most);
            int own = below(8) == 0 ? 1 + below(50) : 0;
            int step = below(style == 1 ? 2 : 9);
            if (below(60) == 0) {
                weight = below(2) == 0 ? 0 : 1001;
            }
            if (below(80) == 0) {
                own = -1;
            }
            String what = op + " key " + key + " weight " + weight + " own " + own + " step " + step;
            long got = answer(cache, op, key, call, weight, own, step);
            long want = answer(model, op, key, call, weight, own, step);
            boolean same = got == want;
            for (int look = 0; look < looks && same; look++) {
                same = sameAnywhere(cache, model, base, keys);
            }
            if (!same) {
                wrong++;
                System.out.println("run " + run + " max " + max + " call " + call + ": op " + what + " answered " + got + ", model " + want);
                return model;
            }
        }
        if (!sameAtLast(cache, model, shape == 0 ? 990 : 0, keys)) {
            wrong++;
            System.out.println("run " + run + " max " + max + ": the last look");
        }
        return model;
    }

    private static long answer(Cache x, int op, int key, int value, int weight, int own, int step) {
        try {
            switch (op) {
                case 0: case 1: case 2: case 3: return x.get(key);
                case 4: case 5: case 6: case 7: return x.put(key, value, weight, own) ? 1 : 0;
                case 8: return x.maintain();
                case 9: case 10: return x.advance(step);
                case 11: return x.remove(key);
                case 12: case 13: return x.load(key);
                case 14: return x.refresh(key) ? 1 : 0;
                case 15: case 16: case 17: return x.finish(key, value, weight) ? 1 : 0;
                case 18: x.fail(key); return 1;
                default: return x.has(key) ? 1 : 0;
            }
        } catch (IllegalStateException e) {
            return STATE_ERROR;
        } catch (IllegalArgumentException e) {
            return ARGUMENT_ERROR;
        }
    }

    private static long answer(Model x, int op, int key, int value, int weight, int own, int step) {
        switch (op) {
            case 0: case 1: case 2: case 3: return x.get(key);
            case 4: case 5: case 6: case 7: return x.put(key, value, weight, own);
            case 8: return x.maintain();
            case 9: case 10: return x.advance(step);
            case 11: return x.remove(key);
            case 12: case 13: return x.load(key);
            case 14: return x.refresh(key);
            case 15: case 16: case 17: return x.finish(key, value, weight);
            case 18: return x.fail(key);
            default: return x.has(key);
        }
    }

    private boolean sameAnywhere(Cache cache, Model model, int base, int keys) {
        switch (below(6)) {
            case 0: return sameRoom(cache, model, below(3), below(4));
            case 1: return sameLog(cache, model, Math.max(0, model.log.size() - below(10)), below(3));
            case 2: return sameOften(cache, model, base + below(keys));
            case 3: return sameHas(cache, model, base + below(keys));
            default: return sameCount(cache, model, below(20) - 1);
        }
    }

    /** What is told first is what tells most: there are calls for all of it in short runs only. */
    private static boolean sameAtLast(Cache cache, Model model, int base, int keys) {
        boolean same = true;
        for (int what = 0; what < 18 && same; what++) {
            same = cache.callsLeft() < 1 || sameCount(cache, model, what);
        }
        for (int room = 0; room < 3; room++) {
            for (int k = 0; k <= model.rooms.get(room).size() && same; k++) {
                same = cache.callsLeft() < 1 || sameRoom(cache, model, room, k);
            }
        }
        for (int key = base; key < base + keys && same; key++) {
            same = cache.callsLeft() < 2 || sameOften(cache, model, key) && sameHas(cache, model, key);
        }
        for (int k = model.log.size(); k >= 0 && same; k--) {
            for (int what = 0; what < 3 && same; what++) {
                same = cache.callsLeft() < 1 || sameLog(cache, model, k, what);
            }
        }
        return same;
    }

    private static boolean sameCount(Cache cache, Model model, int what) {
        return same("count(" + what + ")", cache.count(what), model.count(what));
    }

    private static boolean sameRoom(Cache cache, Model model, int room, int k) {
        return same("at(" + room + ", " + k + ")", cache.at(room, k), model.at(room, k));
    }

    private static boolean sameLog(Cache cache, Model model, int k, int what) {
        return same("listened(" + k + ", " + what + ")", cache.listened(k, what), model.listened(k, what));
    }

    private static boolean sameOften(Cache cache, Model model, int key) {
        return same("often(" + key + ")", cache.often(key), model.often(key));
    }

    private static boolean sameHas(Cache cache, Model model, int key) {
        return same("has(" + key + ")", cache.has(key) ? 1 : 0, model.has(key));
    }

    private static boolean same(String call, long got, long want) {
        if (got != want) {
            System.out.println(call + " " + got + ", model " + want);
        }
        return got == want;
    }

    private static final class Item {
        final int key;
        int value;
        int weight;
        int own;
        long putAt;
        long gotAt;
        int puts;

        Item(int key) {
            this.key = key;
        }
    }

    private static final class Model {
        static final String[] SEEN = {"a draw for the candidate", "a draw for the victim", "a halving", "a climb up", "a climb down",
            "an eviction from protected", "an eviction from the window", "a demotion", "a lost note", "a reload too late",
            "a climb with a big difference", "a climb with a small one", "a step that shrank", "a fill from protected",
            "a candidate that won", "a task of an entry gone", "a put over an entry that is over", "equal ends",
            "a fill from probation", "a spill by a climb"};
        // Behind step 4 only probation can have too much; a second climb with a step above 1 needs over 512 calls.
        static final List<Integer> OUT_OF_REACH = List.of(5, 6, 12);
        static final int[] ODD = {-1640531527, -2048144777, -1028477379, 668265263};
        static final int WINDOW = 0, PROBATION = 1, PROTECTED = 2;

        final int[] seen = new int[SEEN.length];
        final int max, write, touch, size;
        long time;
        final List<Item> map = new ArrayList<>();
        final List<List<Item>> rooms = List.of(new ArrayList<>(), new ArrayList<>(), new ArrayList<>());
        final List<List<Item>> notes = List.of(new ArrayList<>(), new ArrayList<>());
        final List<Item> taskItems = new ArrayList<>();
        final List<String> taskKinds = new ArrayList<>();
        final List<int[]> log = new ArrayList<>();
        final List<int[]> ways = new ArrayList<>(); // key, puts when a reload began
        final List<Item> wayItems = new ArrayList<>(); // null for a load
        final int[][] table;
        int added, w, hits, misses, finishes, fails, evicted, evictedWeight, lost, draw = 1;
        int climbHits, climbMisses, lastRate, step;
        boolean down;

        Model(int wanted, int write, int touch) {
            max = wanted < 1 ? 1 : wanted > 5000 ? 5000 : wanted;
            this.write = write;
            this.touch = touch;
            int s = 8;
            while (s < max) {
                s *= 2;
            }
            size = s;
            table = new int[4][size];
            w = max / 100 < 1 ? 1 : max / 100;
            step = max / 16 < 1 ? 1 : max / 16;
        }

        long end(Item i) {
            if (i.own > 0) {
                return i.putAt + i.own;
            }
            long end = Long.MAX_VALUE;
            if (write > 0) {
                end = i.putAt + write;
            }
            if (touch > 0 && i.gotAt + touch < end) {
                end = i.gotAt + touch;
            }
            return end;
        }

        boolean over(Item i) {
            return end(i) <= time;
        }

        Item any(int key) {
            for (Item i : map) {
                if (i.key == key) {
                    return i;
                }
            }
            return null;
        }

        Item live(int key) {
            Item i = any(key);
            return i == null || over(i) ? null : i;
        }

        int way(int key) {
            for (int i = 0; i < ways.size(); i++) {
                if (ways.get(i)[0] == key) {
                    return i;
                }
            }
            return -1;
        }

        int get(int key) {
            if (key < 0 || key > 999) {
                return -1;
            }
            Item i = live(key);
            if (i == null) {
                misses++;
                climbMisses++;
                return -1;
            }
            hits++;
            climbHits++;
            i.gotAt = time;
            if (notes.get(key % 2).size() == 16) {
                lost++;
                seen[8]++;
            } else {
                notes.get(key % 2).add(i);
            }
            return i.value;
        }

        int has(int key) {
            return live(key) == null ? 0 : 1;
        }

        long put(int key, int value, int weight, int own) {
            if (key < 0 || key > 999 || value < 0 || weight < 1 || weight > 1000 || own < 0) {
                return ARGUMENT_ERROR;
            }
            Item i = any(key);
            if (i != null && !over(i)) {
                change(i, value, weight, own);
                return 1;
            }
            if (i != null) {
                seen[16]++;
                go(i, 2);
                task("GONE", i);
            }
            Item fresh = new Item(key);
            set(fresh, value, weight, own);
            map.add(fresh);
            task("NEW", fresh);
            return 0;
        }

        void set(Item i, int value, int weight, int own) {
            i.value = value;
            i.weight = weight;
            i.own = own;
            i.putAt = time;
            i.gotAt = time;
            i.puts++;
        }

        void change(Item i, int value, int weight, int own) {
            log.add(new int[] {i.key, i.value, 1});
            set(i, value, weight, own);
            task("CHANGED", i);
        }

        void go(Item i, int why) {
            map.remove(i);
            log.add(new int[] {i.key, i.value, why});
        }

        void task(String kind, Item i) {
            taskItems.add(i);
            taskKinds.add(kind);
            if (taskItems.size() == 8) {
                maintain();
            }
        }

        int remove(int key) {
            Item i = any(key);
            if (i == null) {
                return -1;
            }
            boolean over = over(i);
            go(i, over ? 2 : 0);
            task("GONE", i);
            return over ? -1 : i.value;
        }

        long load(int key) {
            if (key < 0 || key > 999) {
                return ARGUMENT_ERROR;
            }
            int value = get(key);
            if (value >= 0) {
                return value;
            }
            if (way(key) >= 0) {
                return STATE_ERROR;
            }
            ways.add(new int[] {key, 0});
            wayItems.add(null);
            return -2;
        }

        int refresh(int key) {
            Item i = live(key);
            if (i == null || way(key) >= 0) {
                return 0;
            }
            ways.add(new int[] {key, i.puts});
            wayItems.add(i);
            return 1;
        }

        long finish(int key, int value, int weight) {
            int at = way(key);
            if (at < 0) {
                return STATE_ERROR;
            }
            if (value < 0 || weight < 1 || weight > 1000) {
                return ARGUMENT_ERROR;
            }
            int puts = ways.remove(at)[1];
            Item i = wayItems.remove(at);
            finishes++;
            Item now = live(key);
            if (i == null) {
                if (now != null) {
                    return 0;
                }
                put(key, value, weight, 0);
                return 1;
            }
            if (now != i || i.puts != puts) {
                seen[9]++;
                return 0;
            }
            change(i, value, weight, 0);
            return 1;
        }

        long fail(int key) {
            int at = way(key);
            if (at < 0) {
                return STATE_ERROR;
            }
            ways.remove(at);
            wayItems.remove(at);
            fails++;
            return 1;
        }

        long advance(int n) {
            if (n < 0 || time + n > 1099511627776L) {
                return -1;
            }
            return time += n;
        }

        int weight(int room) {
            int sum = 0;
            for (Item i : rooms.get(room)) {
                sum += i.weight;
            }
            return sum;
        }

        int weight() {
            return weight(0) + weight(1) + weight(2);
        }

        int roomOf(Item i) {
            for (int room = 0; room < 3; room++) {
                if (rooms.get(room).contains(i)) {
                    return room;
                }
            }
            return -1;
        }

        void countKey(int key) {
            boolean some = false;
            for (int row = 0; row < 4; row++) {
                int place = Math.floorMod((key + 1) * ODD[row] >>> 7, size);
                if (table[row][place] < 15) {
                    table[row][place]++;
                    some = true;
                }
            }
            if (!some) {
                return;
            }
            added++;
            if (added == 10 * size) {
                seen[2]++;
                int odd = 0;
                for (int[] row : table) {
                    for (int p = 0; p < size; p++) {
                        odd += row[p] % 2;
                        row[p] /= 2;
                    }
                }
                added = (added - odd / 4) / 2;
            }
        }

        int often(int key) {
            if (key < 0 || key > 999) {
                return -1;
            }
            int least = 15;
            for (int row = 0; row < 4; row++) {
                least = Math.min(least, table[row][Math.floorMod((key + 1) * ODD[row] >>> 7, size)]);
            }
            return least;
        }

        void touched(Item i) {
            int room = roomOf(i);
            rooms.get(room).remove(i);
            rooms.get(room == PROBATION ? PROTECTED : room).add(i);
            demote();
        }

        void demote() {
            while (weight(PROTECTED) > (max - w) * 4 / 5) {
                seen[7]++;
                rooms.get(PROBATION).add(rooms.get(PROTECTED).remove(0));
            }
        }

        int maintain() {
            for (List<Item> buffer : notes) {
                for (Item i : buffer) {
                    if (roomOf(i) >= 0) {
                        countKey(i.key);
                        touched(i);
                    }
                }
                buffer.clear();
            }
            for (int t = 0; t < taskItems.size(); t++) {
                doTask(taskKinds.get(t), taskItems.get(t));
            }
            taskItems.clear();
            taskKinds.clear();
            expire();
            List<Item> candidates = new ArrayList<>();
            while (weight(WINDOW) > w) {
                Item i = rooms.get(WINDOW).remove(0);
                rooms.get(PROBATION).add(i);
                candidates.add(i);
            }
            evict(candidates);
            climb();
            return weight();
        }

        void doTask(String kind, Item i) {
            if (kind.equals("GONE")) {
                for (List<Item> room : rooms) {
                    room.remove(i);
                }
                return;
            }
            countKey(i.key);
            if (!map.contains(i)) {
                seen[15]++;
            }
            if (kind.equals("NEW") && map.contains(i)) {
                rooms.get(WINDOW).add(i);
            }
            if (kind.equals("CHANGED") && roomOf(i) >= 0) {
                touched(i);
            }
        }

        void expire() {
            List<Item> gone = new ArrayList<>();
            for (List<Item> room : rooms) {
                for (Item i : room) {
                    if (over(i)) {
                        gone.add(i);
                    }
                }
            }
            gone.sort(Comparator.comparingLong((Item i) -> end(i)).thenComparingInt((Item i) -> i.key));
            for (int k = 0; k < gone.size(); k++) {
                if (k > 0 && end(gone.get(k)) == end(gone.get(k - 1))) {
                    seen[17]++;
                }
                rooms.get(roomOf(gone.get(k))).remove(gone.get(k));
                go(gone.get(k), 2);
            }
        }

        void evict(List<Item> candidates) {
            while (weight() > max) {
                int from = !rooms.get(PROBATION).isEmpty() ? PROBATION : !rooms.get(PROTECTED).isEmpty() ? PROTECTED : WINDOW;
                seen[5] += from == PROTECTED ? 1 : 0;
                seen[6] += from == WINDOW ? 1 : 0;
                Item victim = rooms.get(from).get(0);
                candidates.removeIf(i -> !rooms.get(PROBATION).contains(i));
                Item loser = victim;
                if (!candidates.isEmpty()) {
                    Item candidate = candidates.remove(0);
                    loser = candidate == victim ? victim : duel(candidate, victim);
                }
                rooms.get(roomOf(loser)).remove(loser);
                evicted++;
                evictedWeight += loser.weight;
                go(loser, 3);
            }
        }

        Item duel(Item candidate, Item victim) {
            int often = often(candidate.key);
            if (often > often(victim.key)) {
                seen[14]++;
                return victim;
            }
            if (often <= 5) {
                return candidate;
            }
            draw ^= draw << 13;
            draw ^= draw >>> 17;
            draw ^= draw << 5;
            boolean lucky = (draw & 127) == 0;
            seen[lucky ? 1 : 0]++;
            return lucky ? victim : candidate;
        }

        void climb() {
            int asked = climbHits + climbMisses;
            if (asked < 10 * max) {
                return;
            }
            int rate = 1000 * climbHits / asked;
            climbHits = 0;
            climbMisses = 0;
            if (rate < lastRate) {
                down = !down;
            }
            int oldStep = step;
            if (rate - lastRate >= 50 || lastRate - rate >= 50) {
                seen[10]++;
                step = max / 16 < 1 ? 1 : max / 16;
            } else {
                seen[11]++;
                step = step * 63 / 64 < 1 ? 1 : step * 63 / 64;
            }
            seen[12] += step < oldStep ? 1 : 0;
            lastRate = rate;
            if (down) {
                seen[4]++;
                w = w - oldStep;
            } else {
                seen[3]++;
                w = w + oldStep > max - 1 ? max - 1 : w + oldStep;
            }
            if (w < 1) {
                w = 1;
            }
            move();
        }

        void move() {
            if (down) {
                while (weight(WINDOW) > w) {
                    seen[19]++;
                    rooms.get(PROBATION).add(rooms.get(WINDOW).remove(0));
                }
            }
            while (!down) {
                int from = rooms.get(PROBATION).isEmpty() ? PROTECTED : PROBATION;
                if (rooms.get(from).isEmpty() || weight(WINDOW) + rooms.get(from).get(0).weight > w) {
                    break;
                }
                seen[from == PROTECTED ? 13 : 18]++;
                rooms.get(WINDOW).add(rooms.get(from).remove(0));
            }
            demote();
        }

        int count(int what) {
            int over = 0;
            for (Item i : map) {
                over += over(i) ? 1 : 0;
            }
            int[] all = {map.size(), over, weight(), weight(0), weight(1), weight(2), w, hits, misses, finishes, fails, evicted,
                evictedWeight, notes.get(0).size() + notes.get(1).size(), taskItems.size(), added, lost, ways.size()};
            return what < 0 || what >= all.length ? -1 : all[what];
        }

        int at(int room, int k) {
            return k < rooms.get(room).size() ? rooms.get(room).get(k).key : -1;
        }

        int listened(int k, int what) {
            return k < log.size() && k < 500 ? log.get(k)[what] : -1;
        }
    }
}

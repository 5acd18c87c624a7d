import java.util.List;

/** The Terms on COUNTS. What is due is worked out by Table. */
final class CountBoundaries {
    private CountBoundaries() {
    }

    static List<Held> all() {
        return List.of(
            new Held("SIZE is the least power of two that is at least MAX, at least 8.", CountBoundaries::sizes),
            new Held("There are four rows of SIZE counts, 0 .. 15.", CountBoundaries::fourRowsOfSmallCounts),
            new Held("Row i (0 .. 3) counts a key at place (key + 1) * ODD(i) >>> 7, modulo SIZE, in ints, ODD: -1640531527,"
                + " -2048144777, -1028477379, 668265263.", CountBoundaries::places),
            new Held("To COUNT a key: in each row its count, if below 15, becomes one more; if some did, the ADDED become one more;",
                CountBoundaries::countsThatAreFull),
            new Held("when they are 10 * SIZE, all counts are halved (cut), and ADDED too, less a quarter (cut) of how many counts"
                + " were odd, first: ADDED = (ADDED - odd / 4) / 2.", CountBoundaries::halving),
            new Held("How OFTEN a key was asked for: the least of its four counts.", CountBoundaries::leastOfFour));
    }

    /** Rows above 1024 can't be told from each other by 1000 keys: no key meets others in all four of them. */
    private static void sizes() {
        int[][] maxAndSize = {{1, 8}, {7, 8}, {8, 8}, {9, 16}, {16, 16}, {17, 32}, {32, 32}, {33, 64}, {64, 64}, {65, 128},
            {128, 128}, {129, 256}, {256, 256}, {257, 512}, {512, 512}, {513, 1024}, {1024, 1024}, {1025, 2048}};
        for (int[] pair : maxAndSize) {
            if (pair[1] <= 1024) {
                askForOneThatMeets(pair[0], pair[1], 1);
            }
            if (pair[1] > 8) {
                askForOneThatMeets(pair[0], pair[1] / 2, 0);
            }
        }
        askForOneThatMeets(5000, 1024, 0);
        for (int[] pair : new int[][] {{1, 8}, {8, 8}, {9, 16}, {16, 16}, {17, 32}, {32, 32}}) {
            halvedAt(pair[0], pair[1]);
        }
    }

    /** Counts four keys that in rows of such a size meet a fifth one, one in each row, but not in rows twice as long. */
    private static void askForOneThatMeets(int max, int meetingSize, int want) {
        for (int key = 0; key < 1000; key++) {
            int[] others = meetingOnes(key, meetingSize);
            if (others != null && oftenBy(others, key, 2 * meetingSize) == 0) {
                Cache x = new Cache(max, 0, 0);
                for (int other : others) {
                    x.put(other, 1, 1, 0);
                }
                x.maintain();
                Sheet.due("often(" + key + ") with max " + max, x.often(key), want);
                return;
            }
        }
        Sheet.fault("no key meets others in rows of " + meetingSize);
    }

    private static int oftenBy(int[] counted, int key, int size) {
        Table table = new Table(size);
        for (int one : counted) {
            table.add(one);
        }
        return table.often(key);
    }

    /** For each row a key whose place there is that of key, or null. */
    private static int[] meetingOnes(int key, int size) {
        int[] found = new int[Table.ROWS];
        for (int row = 0; row < Table.ROWS; row++) {
            int other = 0;
            while (other < 1000 && (other == key || Table.place(row, other, size) != Table.place(row, key, size))) {
                other++;
            }
            if (other == 1000) {
                return null;
            }
            found[row] = other;
        }
        return found;
    }

    private static void halvedAt(int max, int size) {
        Cache x = new Cache(max, 0, 0);
        Table table = new Table(size);
        putDistinct(x, table, 10 * size - 1, 7);
        Sheet.due("ADDED of max " + max, x.count(Sheet.ADDED), 10 * size - 1);
        putDistinct(x, table, 1, 1);
        Sheet.due("ADDED of max " + max + ", halved", x.count(Sheet.ADDED), table.added);
    }

    private static void putDistinct(Cache x, Table table, int times, int stride) {
        for (int i = 0; i < times; i++) {
            int key = i * stride % 1000;
            x.put(key, 1, 1, 0);
            table.add(key);
        }
        x.maintain();
    }

    private static void fourRowsOfSmallCounts() {
        Cache x = new Cache(8, 0, 0);
        for (int key = 0; key < 16; key++) {
            Sheet.due("often(" + key + ") of a new one", x.often(key), 0);
        }
        Sheet.putAll(x, 1);
        x.maintain();
        Sheet.getTimes(x, 1, 13);
        x.maintain();
        Sheet.due("often(1), counted 14 times", x.often(1), 14);
        x.get(1);
        x.maintain();
        Sheet.due("often(1), counted 15 times", x.often(1), 15);
        Sheet.getTimes(x, 1, 3);
        x.maintain();
        Sheet.due("often(1), counted 18 times", x.often(1), 15);
        Cache rows = new Cache(8, 0, 0);
        Table table = new Table(8);
        // With a row less, a key would be found more often than four rows say.
        putDistinct(rows, table, 12, 83);
        for (int key = 0; key < 480; key++) {
            Sheet.due("often(" + key + ")", rows.often(key), table.often(key));
        }
    }

    private static void places() {
        for (int max : new int[] {8, 16, 50, 300}) {
            int size = Math.max(8, Integer.highestOneBit(max * 2 - 1));
            for (int half = 0; half < 2; half++) {
                Cache x = new Cache(max, 0, 0);
                Table table = new Table(size);
                putDistinct(x, table, 23, 41);
                x.put(999, 1, 1, 0);
                x.maintain();
                table.add(999);
                for (int key = half * 520; key < half * 520 + 480; key++) {
                    Sheet.due("often(" + key + ") with max " + max, x.often(key), table.often(key));
                }
            }
        }
    }

    /** Two keys that meet in some row but not in all, so that one is full where the other is. */
    private static void countsThatAreFull() {
        int one = 1;
        int two = 2;
        while (rowsWhereTheyMeet(one, two) == 0 || rowsWhereTheyMeet(one, two) == Table.ROWS) {
            two++;
        }
        Cache x = new Cache(8, 0, 0);
        x.put(one, 1, 1, 0);
        x.maintain();
        Sheet.getTimes(x, one, 13);
        x.maintain();
        Sheet.dueCount(x, Sheet.ADDED, 14);
        x.get(one);
        x.maintain();
        Sheet.dueCount(x, Sheet.ADDED, 15);
        x.get(one);
        x.maintain();
        Sheet.due("often, full", x.often(one), 15);
        Sheet.dueCount(x, Sheet.ADDED, 15);
        x.put(two, 1, 1, 0);
        x.maintain();
        Sheet.due("often of the other", x.often(two), 1);
        Sheet.due("often, full", x.often(one), 15);
        Sheet.due("ADDED, some row counted", x.count(Sheet.ADDED), 16);
        Sheet.getTimes(x, two, 14);
        x.maintain();
        Sheet.due("often of the other", x.often(two), 15);
        Sheet.dueCount(x, Sheet.ADDED, 30);
        Sheet.getTimes(x, two, 2);
        x.maintain();
        Sheet.dueCount(x, Sheet.ADDED, 30);
    }

    private static int rowsWhereTheyMeet(int one, int two) {
        int rows = 0;
        for (int row = 0; row < Table.ROWS; row++) {
            rows += Table.place(row, one, 8) == Table.place(row, two, 8) ? 1 : 0;
        }
        return rows;
    }

    /** Rows of puts in several orders, until each way of cutting has been come to. */
    private static void halving() {
        boolean[] quarterCut = new boolean[4];
        boolean[] halfCut = new boolean[2];
        for (int stride = 1; stride < 60; stride += 2) {
            for (int max : new int[] {8, 16}) {
                Table table = halvedBy(max, stride);
                quarterCut[table.oddAtHalving % 4] = true;
                halfCut[table.oddAtHalving / 4 % 2] = true;
            }
        }
        for (int i = 0; i < 4; i++) {
            Sheet.due("odd counts with a rest of " + i + " come", quarterCut[i] && halfCut[i % 2], true);
        }
        Cache again = new Cache(8, 0, 0);
        Table table = new Table(8);
        putDistinct(again, table, 200, 3);
        Sheet.due("ADDED, halved more than once", again.count(Sheet.ADDED), table.added);
    }

    private static Table halvedBy(int max, int stride) {
        Cache x = new Cache(max, 0, 0);
        Table table = new Table(max);
        putDistinct(x, table, 10 * max - 1, stride);
        Sheet.due("ADDED before it is enough", x.count(Sheet.ADDED), 10 * max - 1);
        dueOften(x, table);
        x.put(999, 1, 1, 0);
        x.maintain();
        table.add(999);
        Sheet.due("ADDED behind halving, stride " + stride, x.count(Sheet.ADDED), table.added);
        dueOften(x, table);
        return table;
    }

    private static void dueOften(Cache x, Table table) {
        for (int key = 0; key < 64; key++) {
            Sheet.due("often(" + key + ")", x.often(key), table.often(key));
        }
    }

    private static void leastOfFour() {
        Cache x = new Cache(8, 0, 0);
        Table table = new Table(8);
        putDistinct(x, table, 30, 37);
        int[] decided = new int[Table.ROWS];
        for (int key = 0; key < 450; key++) {
            Sheet.due("often(" + key + ")", x.often(key), table.often(key));
            for (int row = 0; row < Table.ROWS; row++) {
                decided[row] += table.decides(row, key) ? 1 : 0;
            }
        }
        for (int row = 0; row < Table.ROWS; row++) {
            Sheet.due("row " + row + " decides for some key", decided[row] > 0, true);
        }
    }
}

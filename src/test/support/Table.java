/** The document's COUNTS by other means than the class: longs in place of ints that wrap, an int for each count. */
final class Table {
    private static final long[] ODD = {-1640531527L, -2048144777L, -1028477379L, 668265263L};
    static final int ROWS = 4;

    final int size;
    final int[][] rows;
    int added;
    int oddAtHalving = -1;

    Table(int size) {
        this.size = size;
        rows = new int[ROWS][size];
    }

    static int place(int row, int key, int size) {
        long product = Math.floorMod((key + 1) * ODD[row], 1L << 32);
        return (int) (product / 128 % size);
    }

    int count(int row, int key) {
        return rows[row][place(row, key, size)];
    }

    int often(int key) {
        int least = 15;
        for (int row = 0; row < ROWS; row++) {
            least = Math.min(least, count(row, key));
        }
        return least;
    }

    /** Whether no other row has so small a count of the key. */
    boolean decides(int row, int key) {
        for (int other = 0; other < ROWS; other++) {
            if (other != row && count(other, key) <= count(row, key)) {
                return false;
            }
        }
        return true;
    }

    void add(int key) {
        boolean some = false;
        for (int row = 0; row < ROWS; row++) {
            if (count(row, key) < 15) {
                rows[row][place(row, key, size)]++;
                some = true;
            }
        }
        if (some) {
            added++;
        }
        if (some && added == 10 * size) {
            halve();
        }
    }

    private void halve() {
        oddAtHalving = 0;
        for (int[] row : rows) {
            for (int place = 0; place < size; place++) {
                oddAtHalving += row[place] % 2;
                row[place] /= 2;
            }
        }
        added = (added - oddAtHalving / 4) / 2;
    }
}

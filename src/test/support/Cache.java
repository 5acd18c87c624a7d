/** A WindowCache that counts its calls, since the document promises nothing behind the 512th. */
final class Cache {
    static final int MOST_CALLS = 512;

    private final WindowCache cache;
    private int calls;

    Cache(int max, int write, int touch) {
        cache = new WindowCache(max, write, touch);
    }

    int callsLeft() {
        return MOST_CALLS - calls;
    }

    int get(int key) {
        return called().get(key);
    }

    boolean has(int key) {
        return called().has(key);
    }

    boolean put(int key, int value, int weight, int own) {
        return called().put(key, value, weight, own);
    }

    int remove(int key) {
        return called().remove(key);
    }

    int load(int key) {
        return called().load(key);
    }

    boolean refresh(int key) {
        return called().refresh(key);
    }

    boolean finish(int key, int value, int weight) {
        return called().finish(key, value, weight);
    }

    void fail(int key) {
        called().fail(key);
    }

    long advance(int n) {
        return called().advance(n);
    }

    int maintain() {
        return called().maintain();
    }

    int count(int what) {
        return called().count(what);
    }

    int often(int key) {
        return called().often(key);
    }

    int at(int room, int k) {
        return called().at(room, k);
    }

    int listened(int k, int what) {
        return called().listened(k, what);
    }

    private WindowCache called() {
        calls++;
        if (calls > MOST_CALLS) {
            throw new AssertionError("the test makes more than " + MOST_CALLS + " calls on one object");
        }
        return cache;
    }
}

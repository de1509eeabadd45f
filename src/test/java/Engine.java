/**
 * A RouteEngine that counts its calls. The document promises nothing beyond the 512th call on
 * an object, so a test that makes more is wrong itself.
 */
final class Engine {
    static final int CALLS_MOST = 512;

    private final RouteEngine engine = new RouteEngine();
    private int calls;

    int callsLeft() {
        return CALLS_MOST - calls;
    }

    private RouteEngine called() {
        calls++;
        if (calls > CALLS_MOST) {
            throw new IllegalStateException("a test made more than " + CALLS_MOST + " calls on one object");
        }
        return engine;
    }

    boolean put(int r, char c) {
        return called().put(r, c);
    }

    boolean clear(int r) {
        return called().clear(r);
    }

    int read() {
        return called().read();
    }

    boolean clause(int t, int maximum, int delay, boolean handled, boolean original) {
        return called().clause(t, maximum, delay, handled, original);
    }

    void forget() {
        called().forget();
    }

    boolean fail(int d, int failures, int t) {
        return called().fail(d, failures, t);
    }

    int send(int r, int body, int key) {
        return called().send(r, body, key);
    }

    int work() {
        return called().work();
    }

    int pass(int n) {
        return called().pass(n);
    }

    int delivered(int d) {
        return called().delivered(d);
    }

    int body(int d, int k) {
        return called().body(d, k);
    }

    int key(int d, int k) {
        return called().key(d, k);
    }

    int group(int i, int what) {
        return called().group(i, what);
    }

    int count(int what) {
        return called().count(what);
    }
}

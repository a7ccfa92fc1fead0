/** A DataTree that counts its calls: what one answers after its 512th is free, so no test asks it. */
final class Counted {
    static final int MOST_CALLS = 512;

    private final DataTree tree = new DataTree();
    private int calls = 0;

    /** How many calls are left of those that the document speaks of. */
    int left() {
        return MOST_CALLS - calls;
    }

    private DataTree next() {
        calls++;
        if (calls > MOST_CALLS) {
            throw new AssertionError("a test uses one object for more than " + MOST_CALLS + " calls");
        }
        return tree;
    }

    boolean integer(long v) {
        return next().integer(v);
    }

    boolean bytes(long part, int n) {
        return next().bytes(part, n);
    }

    boolean more(long part, int n) {
        return next().more(part, n);
    }

    boolean list(int n) {
        return next().list(n);
    }

    boolean map(int n) {
        return next().map(n);
    }

    boolean constructor(int number, int n) {
        return next().constructor(number, n);
    }

    boolean copy(int i) {
        return next().copy(i);
    }

    boolean drop() {
        return next().drop();
    }

    int open() {
        return next().open();
    }

    int write() {
        return next().write();
    }

    void clear() {
        next().clear();
    }

    boolean give(long v, int n) {
        return next().give(v, n);
    }

    boolean cut(int n) {
        return next().cut(n);
    }

    void turn() {
        next().turn();
    }

    int read() {
        return next().read();
    }

    int node(int i, int k, int w) {
        return next().node(i, k, w);
    }

    long value(int i, int k) {
        return next().value(i, k);
    }

    int byteAt(int i, int k, int j) {
        return next().byteAt(i, k, j);
    }

    int compare(int a, int b) {
        return next().compare(a, b);
    }

    int output(int k) {
        return next().output(k);
    }

    int look(int which) {
        return next().look(which);
    }
}

/**
 * A RoaringIndex that is asked no more often than the document allows: what a call behind the
 * 512th answers is free, so a test that makes one is itself wrong.
 */
final class CountedIndex implements Index {
    private static final int MOST_CALLS = 512;
    private final RoaringIndex x = new RoaringIndex();
    private int calls;

    private RoaringIndex asked() {
        calls++;
        if (calls > MOST_CALLS) {
            throw new IllegalStateException("a test makes more than " + MOST_CALLS + " calls on one object");
        }
        return x;
    }

    @Override public int add(int set, int v) {
        return asked().add(set, v);
    }

    @Override public int remove(int set, int v) {
        return asked().remove(set, v);
    }

    @Override public int range(int set, int key, int from, int to, int how) {
        return asked().range(set, key, from, to, how);
    }

    @Override public int steps(int set, int key, int from, int step) {
        return asked().steps(set, key, from, step);
    }

    @Override public int clear(int set) {
        return asked().clear(set);
    }

    @Override public int join(int to, int what, int a, int b) {
        return asked().join(to, what, a, b);
    }

    @Override public int shrink(int set) {
        return asked().shrink(set);
    }

    @Override public int formula(int to, long signs, int n) {
        return asked().formula(to, signs, n);
    }

    @Override public int has(int set, int v) {
        return asked().has(set, v);
    }

    @Override public int rank(int set, int v) {
        return asked().rank(set, v);
    }

    @Override public long select(int set, int i) {
        return asked().select(set, i);
    }

    @Override public long next(int set, int v) {
        return asked().next(set, v);
    }

    @Override public int count(int set, int what) {
        return asked().count(set, what);
    }

    @Override public int container(int set, int k, int what) {
        return asked().container(set, k, what);
    }

    @Override public int compare(int a, int b) {
        return asked().compare(a, b);
    }

    @Override public int write(int set) {
        return asked().write(set);
    }

    @Override public int read(int set) {
        return asked().read(set);
    }

    @Override public int fault() {
        return asked().fault();
    }

    @Override public int cut(int n) {
        return asked().cut(n);
    }

    @Override public int type(long w, int m) {
        return asked().type(w, m);
    }

    @Override public int at(int i) {
        return asked().at(i);
    }

    @Override public int alter(int i, int v) {
        return asked().alter(i, v);
    }

    @Override public int work() {
        return asked().work();
    }

    @Override public int size() {
        return asked().size();
    }

    @Override public long digest() {
        return asked().digest();
    }
}

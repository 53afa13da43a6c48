import java.util.Arrays;

/** Asks the class and the plain model alike and tells where they differ; answers as the model does. */
final class Twin implements Index {
    private final Due due;
    private final String run;
    private final int[] answersMet;
    private final Index x = new CountedIndex();
    /** May be asked beside the calls that are compared. */
    final PlainModel model = new PlainModel();
    private int calls;

    /** For the answers -1 to -5, answersMet counts how often they were due. */
    Twin(Due due, String run, int[] answersMet) {
        this.due = due;
        this.run = run;
        this.answersMet = answersMet;
    }

    int calls() {
        return calls;
    }

    private long told(String call, long got, long want, long... args) {
        calls++;
        due.is(run + ", call " + calls + ", " + call + Arrays.toString(args), got, want);
        if (want < 0 && want >= -5) {
            answersMet[(int) -want]++;
        }
        return want;
    }

    @Override public int add(int set, int v) {
        return (int) told("add", x.add(set, v), model.add(set, v), set, v);
    }

    @Override public int remove(int set, int v) {
        return (int) told("remove", x.remove(set, v), model.remove(set, v), set, v);
    }

    @Override public int range(int set, int key, int from, int to, int how) {
        return (int) told("range", x.range(set, key, from, to, how), model.range(set, key, from, to, how),
            set, key, from, to, how);
    }

    @Override public int steps(int set, int key, int from, int step) {
        return (int) told("steps", x.steps(set, key, from, step), model.steps(set, key, from, step), set, key, from, step);
    }

    @Override public int clear(int set) {
        return (int) told("clear", x.clear(set), model.clear(set), set);
    }

    @Override public int join(int to, int what, int a, int b) {
        return (int) told("join", x.join(to, what, a, b), model.join(to, what, a, b), to, what, a, b);
    }

    @Override public int shrink(int set) {
        return (int) told("shrink", x.shrink(set), model.shrink(set), set);
    }

    @Override public int formula(int to, long signs, int n) {
        return (int) told("formula", x.formula(to, signs, n), model.formula(to, signs, n), to, signs, n);
    }

    @Override public int has(int set, int v) {
        return (int) told("has", x.has(set, v), model.has(set, v), set, v);
    }

    @Override public int rank(int set, int v) {
        return (int) told("rank", x.rank(set, v), model.rank(set, v), set, v);
    }

    @Override public long select(int set, int i) {
        return told("select", x.select(set, i), model.select(set, i), set, i);
    }

    @Override public long next(int set, int v) {
        return told("next", x.next(set, v), model.next(set, v), set, v);
    }

    @Override public int count(int set, int what) {
        return (int) told("count", x.count(set, what), model.count(set, what), set, what);
    }

    @Override public int container(int set, int k, int what) {
        return (int) told("container", x.container(set, k, what), model.container(set, k, what), set, k, what);
    }

    @Override public int compare(int a, int b) {
        return (int) told("compare", x.compare(a, b), model.compare(a, b), a, b);
    }

    @Override public int write(int set) {
        return (int) told("write", x.write(set), model.write(set), set);
    }

    @Override public int read(int set) {
        return (int) told("read", x.read(set), model.read(set), set);
    }

    @Override public int fault() {
        return (int) told("fault", x.fault(), model.fault());
    }

    @Override public int cut(int n) {
        return (int) told("cut", x.cut(n), model.cut(n), n);
    }

    @Override public int type(long w, int m) {
        return (int) told("type", x.type(w, m), model.type(w, m), w, m);
    }

    @Override public int at(int i) {
        return (int) told("at", x.at(i), model.at(i), i);
    }

    @Override public int alter(int i, int v) {
        return (int) told("alter", x.alter(i, v), model.alter(i, v), i, v);
    }

    @Override public int work() {
        return (int) told("work", x.work(), model.work());
    }

    @Override public int size() {
        return (int) told("size", x.size(), model.size());
    }

    @Override public long digest() {
        return told("digest", x.digest(), model.digest());
    }
}

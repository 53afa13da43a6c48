import java.util.Arrays;

/** Looks, after a call that was refused, whether all that can be asked is as it was before. */
final class Watch {
    private static final int WORK = 0;
    private static final int FIRST_BYTES = 12;
    private final Due due;
    private final Index x;
    private long[] before;

    Watch(Due due, Index x) {
        this.due = due;
        this.x = x;
        this.before = state();
    }

    /** What is there now is what must stay. */
    void anew() {
        before = state();
    }

    void refused(String call, long got, long want) {
        refusedFor(0, call, got, want);
    }

    /** Refused, but so much WORK is gone. */
    void refusedFor(int work, String call, long got, long want) {
        due.is(call, got, want);
        before[WORK] -= work;
        long[] after = state();
        due.holds(call + " leaves all as it was: " + Arrays.toString(before) + ", then " + Arrays.toString(after),
            Arrays.equals(before, after));
    }

    /** Work, fault and digest, how many bytes there are, the first of them and the last. */
    private long[] state() {
        int size = x.size();
        int first = Math.min(size, FIRST_BYTES);
        long[] found = new long[5 + first];
        found[WORK] = x.work();
        found[1] = x.fault();
        found[2] = x.digest();
        found[3] = size;
        found[4] = x.at(size - 1);
        for (int i = 0; i < first; i++) {
            found[5 + i] = x.at(i);
        }
        return found;
    }
}

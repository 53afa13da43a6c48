import java.util.BitSet;

/** The boundary cases, sentence by sentence, of promises 10 to 16 and 26. */
public final class EdgesOfAskedTest {
    private static final int NONE = -1, BAD = -2;
    private static final int MIN = Integer.MIN_VALUE, MAX = Integer.MAX_VALUE;
    private static final Due due = new Due("EdgesOfAskedTest");

    public static void main(String[] args) {
        promise10();
        promise11();
        promise12();
        promise13();
        promise14();
        promise15();
        promise16();
        promise26();
        due.end();
    }

    /** Set 0 has both ends of key 0, of the middle keys and of key 65535; set 1 is full; set 2 is empty. */
    private static Index filled() {
        Index x = new CountedIndex();
        for (int v : new int[] {0, 65535, MAX, MIN, -65536, -1}) {
            x.add(0, v);
        }
        for (int key = 0; key < 6; key++) {
            x.range(1, key == 5 ? 65535 : key, 0, 65535, 0);
        }
        x.type(7, 1);
        return x;
    }

    private static void promise10() {
        due.says("Promise 10", "Whether a NUMBER is in a SET: 1, 0.");
        Index x = filled();
        for (int v : new int[] {0, 65535, MAX, MIN, -65536, -1}) {
            due.is("has(0, " + v + ")", x.has(0, v), 1);
            due.is("has(2, " + v + ")", x.has(2, v), 0);
        }
        for (int v : new int[] {1, 65534, 65536, MAX - 1, MIN + 1, -65537, -65535, -2}) {
            due.is("has(0, " + v + ")", x.has(0, v), 0);
        }
        x.range(3, 1, 63, 64, 0);
        for (int low = 60; low < 70; low++) {
            due.is("LOW " + low, x.has(3, 65536 + low), low == 63 || low == 64 ? 1 : 0);
        }
        due.is("the same LOW of KEY 0", x.has(3, 63), 0);
        due.is("the same LOW of a KEY behind", x.has(3, 131072 + 63), 0);
        due.is("the greatest of a full SET", x.has(1, -1), 1);
        due.is("one between its KEYS", x.has(1, 5 << 16), 0);
        due.says("Promise 10", "BAD.");
        Watch watch = new Watch(due, x);
        watch.refused("has(-1, 0)", x.has(-1, 0), BAD);
        watch.refused("has(8, 0)", x.has(8, 0), BAD);
    }

    private static void promise11() {
        due.says("Promise 11", "How many NUMBERS of a SET are not above v.");
        Index x = filled();
        int[] rising = {0, 65535, MAX, MIN, -65536, -1};
        for (int i = 0; i < rising.length; i++) {
            due.is("rank(0, " + rising[i] + ")", x.rank(0, rising[i]), i + 1);
            if (rising[i] != 0) {
                due.is("rank of one below " + rising[i], x.rank(0, rising[i] - 1), rising[i] == MIN ? 3 : i);
            }
            due.is("rank(2, " + rising[i] + ")", x.rank(2, rising[i]), 0);
        }
        due.is("a KEY between", x.rank(0, 7 << 16), 2);
        x.range(3, 1, 63, 128, 0);
        due.is("the least NUMBER, not there", x.rank(3, 0), 0);
        due.is("below the first", x.rank(3, 65536 + 62), 0);
        due.is("the end of a word", x.rank(3, 65536 + 63), 1);
        due.is("the begin of the next", x.rank(3, 65536 + 64), 2);
        due.is("its end", x.rank(3, 65536 + 127), 65);
        due.is("the last", x.rank(3, 65536 + 128), 66);
        due.is("behind the last", x.rank(3, 65536 + 129), 66);
        due.is("the greatest NUMBER, not there", x.rank(3, -1), 66);
        due.is("of a full SET: the least", x.rank(1, 0), 1);
        due.is("of a full SET: the greatest but one", x.rank(1, -2), 393215);
        due.is("of a full SET: the greatest", x.rank(1, -1), 393216);
        due.is("of a full SET: one between its KEYS", x.rank(1, MIN), 5 * 65536);
        due.says("Promise 11", "BAD.");
        Watch watch = new Watch(due, x);
        watch.refused("rank(-1, 0)", x.rank(-1, 0), BAD);
        watch.refused("rank(8, -1)", x.rank(8, -1), BAD);
    }

    private static void promise12() {
        due.says("Promise 12", "The i-th NUMBER of a SET (from 0), as a long 0 to 4294967295; NONE.");
        Index x = filled();
        long[] rising = {0, 65535, 2147483647L, 2147483648L, 4294901760L, 4294967295L};
        for (int i = 0; i < rising.length; i++) {
            due.is("select(0, " + i + ")", x.select(0, i), rising[i]);
        }
        due.is("one too great", x.select(0, 6), NONE);
        due.is("far too great", x.select(0, MAX), NONE);
        due.is("the first of an empty SET", x.select(2, 0), NONE);
        due.is("of a full SET: the last of a KEY", x.select(1, 65535), 65535);
        due.is("of a full SET: the first of the next", x.select(1, 65536), 65536);
        due.is("of a full SET: ahead of a gap", x.select(1, 5 * 65536 - 1), 5 * 65536L - 1);
        due.is("of a full SET: behind it", x.select(1, 5 * 65536), 4294901760L);
        due.is("of a full SET: the last", x.select(1, 393215), 4294967295L);
        due.is("of a full SET: one too great", x.select(1, 393216), NONE);
        x.clear(1);
        due.is("of one that was full and is empty", x.select(1, 0), NONE);
        x.range(3, 0, 63, 64, 0);
        x.add(3, 65535);
        due.is("the end of a word", x.select(3, 0), 63);
        due.is("the begin of the next", x.select(3, 1), 64);
        due.is("the last LOW", x.select(3, 2), 65535);
        due.says("Promise 12", "BAD.");
        Watch watch = new Watch(due, x);
        watch.refused("select(-1, 0)", x.select(-1, 0), BAD);
        watch.refused("select(8, 0)", x.select(8, 0), BAD);
        watch.refused("below the first: i is from 0", x.select(0, -1), BAD);
        watch.refused("far below", x.select(0, MIN), BAD);
        watch.refused("below the first of an empty SET", x.select(2, -1), BAD);
    }

    private static void promise13() {
        due.says("Promise 13", "The least NUMBER of a SET that is v or more, likewise; NONE.");
        Index x = filled();
        int[] rising = {0, 65535, MAX, MIN, -65536, -1};
        for (int i = 0; i < rising.length; i++) {
            long v = rising[i] & 0xFFFFFFFFL;
            due.is("next(0, " + rising[i] + ")", x.next(0, rising[i]), v);
            if (i + 1 < rising.length) {
                due.is("next of one above " + rising[i], x.next(0, rising[i] + 1), rising[i + 1] & 0xFFFFFFFFL);
            }
        }
        due.is("a KEY between", x.next(0, 7 << 16), 2147483647L);
        due.is("of an empty SET", x.next(2, 0), NONE);
        due.is("of an empty SET, the greatest", x.next(2, -1), NONE);
        x.remove(0, -1);
        due.is("behind the last, in its KEY", x.next(0, -1), NONE);
        due.is("behind the last by one", x.next(0, -65535), NONE);
        x.range(3, 1, 63, 64, 0);
        due.is("from the least NUMBER", x.next(3, 0), 65536 + 63);
        due.is("from the end of a word", x.next(3, 65536 + 63), 65536 + 63);
        due.is("from the begin of the next", x.next(3, 65536 + 64), 65536 + 64);
        due.is("behind both", x.next(3, 65536 + 65), NONE);
        due.is("behind their KEY", x.next(3, 131072), NONE);
        due.is("of a full SET, between its KEYS", x.next(1, 5 << 16), 4294901760L);
        due.says("Promise 13", "BAD.");
        Watch watch = new Watch(due, x);
        watch.refused("next(-1, 0)", x.next(-1, 0), BAD);
        watch.refused("next(8, -1)", x.next(8, -1), BAD);
    }

    private static void promise14() {
        due.says("Promise 14",
            "How many: what = 0 NUMBERS, 1 CONTAINERS of a SET, 2 of KIND ARRAY, 3 BITMAP, 4 RUNS.");
        Index x = filled();
        int[][] rows = {{0, 6, 4, 4, 0, 0}, {1, 393216, 6, 0, 6, 0}, {2, 0, 0, 0, 0, 0}};
        for (int[] row : rows) {
            for (int what = 0; what <= 4; what++) {
                due.is("count(" + row[0] + ", " + what + ")", x.count(row[0], what), row[1 + what]);
            }
        }
        x.shrink(1);
        due.is("all are RUNS", x.count(1, 4), 6);
        due.is("none is a BITMAP", x.count(1, 3), 0);
        due.says("Promise 14", "BAD.");
        Watch watch = new Watch(due, x);
        for (int what : new int[] {MIN, -1, 5, 6, 256, MAX}) {
            watch.refused("what " + what, x.count(1, what), BAD);
            watch.refused("what " + what + " of an empty SET", x.count(2, what), BAD);
        }
        watch.refused("count(-1, 0)", x.count(-1, 0), BAD);
        watch.refused("count(8, 0)", x.count(8, 0), BAD);
    }

    private static void promise15() {
        due.says("Promise 15", "Of CONTAINER k of a SET: 0 its KEY, 1 its KIND, 2 how many NUMBERS, "
            + "3 how many RUNS they make.");
        Index x = filled();
        x.shrink(1);
        int[][] ofSet0 = {{0, 0, 2, 2}, {32767, 0, 1, 1}, {32768, 0, 1, 1}, {65535, 0, 2, 2}};
        for (int k = 0; k < ofSet0.length; k++) {
            for (int what = 0; what < 4; what++) {
                due.is("container(0, " + k + ", " + what + ")", x.container(0, k, what), ofSet0[k][what]);
            }
        }
        int[] last = {65535, 2, 65536, 1};
        for (int what = 0; what < 4; what++) {
            due.is("the sixth, " + what, x.container(1, 5, what), last[what]);
        }
        due.says("Promise 15", "BAD.");
        Watch watch = new Watch(due, x);
        for (int what = 0; what < 4; what++) {
            watch.refused("the fifth of four, " + what, x.container(0, 4, what), BAD);
            watch.refused("the seventh of six, " + what, x.container(1, 6, what), BAD);
            watch.refused("the first of none, " + what, x.container(2, 0, what), BAD);
            watch.refused("k -1, " + what, x.container(1, -1, what), BAD);
        }
        watch.refused("k MIN", x.container(1, MIN, 0), BAD);
        watch.refused("k MAX", x.container(1, MAX, 0), BAD);
        for (int what : new int[] {MIN, -1, 4, 5, MAX}) {
            watch.refused("what " + what, x.container(1, 0, what), BAD);
        }
        watch.refused("container(-1, 0, 0)", x.container(-1, 0, 0), BAD);
        watch.refused("container(8, 0, 0)", x.container(8, 0, 0), BAD);
        x.range(1, 65535, 0, 65535, 1);
        due.is("the sixth has gone", x.container(1, 5, 0), BAD);
    }

    private static void promise16() {
        due.says("Promise 16", "How two SETS stand: 0 no NUMBER in both, 1 some, 2 the same, 3 all of a are in b, "
            + "4 all of b in a (two empty ones: 2; else the first of 2, 3, 4, 0 that fits, else 1).");
        Index x = new CountedIndex();
        due.is("two empty ones", x.compare(0, 1), 2);
        due.is("an empty one with itself", x.compare(0, 0), 2);
        x.add(0, -1);
        due.is("none and one: 3 is ahead of 0", x.compare(1, 0), 3);
        due.is("one and none: 4 is ahead of 0", x.compare(0, 1), 4);
        due.is("one with itself: 2 is ahead of 3", x.compare(0, 0), 2);
        x.add(1, -2);
        due.is("of one KEY, none in both", x.compare(0, 1), 0);
        x.add(2, 65535);
        due.is("of two KEYS, the same LOW", x.compare(0, 2), 0);
        x.add(1, -1);
        due.is("all of a in b", x.compare(0, 1), 3);
        due.is("all of b in a", x.compare(1, 0), 4);
        x.add(0, 0);
        due.is("some", x.compare(0, 1), 1);
        due.is("some, turned", x.compare(1, 0), 1);
        x.add(1, 0);
        due.is("all, over two KEYS", x.compare(0, 1), 3);
        x.add(0, -2);
        due.is("the same", x.compare(0, 1), 2);
        x.remove(0, 0);
        due.is("a KEY less", x.compare(0, 1), 3);
        due.is("a KEY more", x.compare(1, 0), 4);
        Made.six(x, 3);
        Made.six(x, 4);
        due.is("two full ones, the same", x.compare(3, 4), 2);
        x.add(3, (5 << 16) + 65535);
        due.is("the last LOW of the last KEY", x.compare(3, 4), 4);
        x.add(4, 1);
        due.is("and one of the first", x.compare(3, 4), 1);
        x.range(5, 0, 0, 9999, 0);
        x.shrink(5);
        x.range(6, 0, 0, 9999, 0);
        due.is("the same of two KINDS", x.compare(5, 6), 2);
        due.says("Promise 16", "BAD.");
        Watch watch = new Watch(due, x);
        for (int set : new int[] {MIN, -1, 8, MAX}) {
            watch.refused("a " + set, x.compare(set, 0), BAD);
            watch.refused("b " + set, x.compare(0, set), BAD);
            watch.refused("both " + set, x.compare(set, set), BAD);
        }
    }

    // ---- Promise 26

    private static void promise26() {
        due.says("Promise 26", "h is 17; h becomes 31 h and each of: of each SET count() 0, 1, "
            + "of each of its CONTAINERS container() 0 to 3, then the 1024 words that a BITMAP of it has; "
            + "as longs that wrap.");
        Index x = new CountedIndex();
        due.is("a new object: 17 times 31, 16 times", x.digest(), ofEmptySets(17, 8));
        x.add(0, 0);
        due.is("LOW 0 of KEY 0 in SET 0", x.digest(), ofEmptySets(withSet(17, new int[] {0, 0}, bits(0, 0)), 7));
        x.clear(0);
        x.add(7, -1);
        long ahead = ofEmptySets(17, 7);
        due.is("the greatest in SET 7", x.digest(), withSet(ahead, new int[] {65535, 0}, bits(65535, 65535)));
        x.remove(7, -1);
        x.range(7, 9, 0, 65535, 0);
        due.is("words of bits alone", x.digest(), withSet(ahead, new int[] {9, 1}, bits(0, 65535)));
        x.shrink(7);
        due.is("as RUNS: the KIND and the same words", x.digest(), withSet(ahead, new int[] {9, 2}, bits(0, 65535)));
        x.clear(7);
        x.range(7, 9, 63, 64, 0);
        due.is("an ARRAY at the edge of a word", x.digest(), withSet(ahead, new int[] {9, 0}, bits(63, 64)));
        x.add(3, MIN);
        long h = withSet(ofEmptySets(17, 3), new int[] {32768, 0}, bits(0, 0));
        due.is("with SETS between", x.digest(), withSet(ofEmptySets(h, 3), new int[] {9, 0}, bits(63, 64)));
        aFullSetInTheDigest();
        bytesWorkAndFaultAreNotInIt();
    }

    private static void aFullSetInTheDigest() {
        Index x = new CountedIndex();
        int[] keysAndKinds = new int[12];
        BitSet[] lows = new BitSet[6];
        for (int k = 0; k < 6; k++) {
            x.range(0, 100 * k, k, 9000 * (k + 1), 0);
            keysAndKinds[2 * k] = 100 * k;
            keysAndKinds[2 * k + 1] = 1;
            lows[k] = bits(k, 9000 * (k + 1));
        }
        due.is("a SET with six", x.digest(), ofEmptySets(withSet(17, keysAndKinds, lows), 7));
    }

    private static void bytesWorkAndFaultAreNotInIt() {
        Index x = new CountedIndex();
        x.range(0, 0, 0, 9, 0);
        long before = x.digest();
        x.type(1, 1);
        x.read(1);
        x.shrink(7);
        due.is("bytes, WORK and FAULT have changed, no SET has", x.digest(), before);
        due.is("asked twice", x.digest(), before);
    }

    private static BitSet bits(int from, int to) {
        BitSet found = new BitSet();
        found.set(from, to + 1);
        return found;
    }

    private static long ofEmptySets(long start, int sets) {
        long h = start;
        for (int k = 0; k < 2 * sets; k++) {
            h *= 31;
        }
        return h;
    }

    /** Reckoned from LOWS that are known, not asked. Each of the LOWS given is one row. */
    private static long withSet(long start, int[] keysAndKinds, BitSet... lows) {
        long numbers = 0;
        for (BitSet b : lows) {
            numbers += b.cardinality();
        }
        long h = 31 * start + numbers;
        h = 31 * h + lows.length;
        for (int k = 0; k < lows.length; k++) {
            h = 31 * h + keysAndKinds[2 * k];
            h = 31 * h + keysAndKinds[2 * k + 1];
            h = 31 * h + lows[k].cardinality();
            h = 31 * h + 1;
            long[] words = lows[k].toLongArray();
            for (int w = 0; w < 1024; w++) {
                h = 31 * h + (w < words.length ? words[w] : 0);
            }
        }
        return h;
    }
}

/** Promises 10 to 16: has, rank, select, next, count, container, compare. */
public final class AskedTest {
    private static final int NONE = -1, BAD = -2;
    private static final Due due = new Due("AskedTest");

    public static void main(String[] args) {
        Index x = new CountedIndex();
        x.range(0, 0, 60, 70, 0);
        x.range(0, 3, 65535, 65535, 0);
        x.steps(0, 32768, 0, 3);
        x.range(0, 65535, 65000, 65535, 0);
        x.add(0, 3 << 16);
        x.shrink(0);
        has(x);
        rank(x);
        select(x);
        next(x);
        count(x);
        container(x);
        due.is("asking takes no work", x.work(), 299);
        anEmptySet();
        againstEachOther();
        compare();
        due.end();
    }

    private static void has(Index x) {
        due.is("has 59", x.has(0, 59), 0);
        due.is("has 60", x.has(0, 60), 1);
        due.is("has 63", x.has(0, 63), 1);
        due.is("has 64", x.has(0, 64), 1);
        due.is("has 70", x.has(0, 70), 1);
        due.is("has 71", x.has(0, 71), 0);
        due.is("has MIN", x.has(0, Integer.MIN_VALUE), 1);
        due.is("has MIN + 1", x.has(0, Integer.MIN_VALUE + 1), 0);
        due.is("has MAX", x.has(0, Integer.MAX_VALUE), 0);
        due.is("has -1", x.has(0, -1), 1);
        due.is("has -65536", x.has(0, -65536), 0);
        due.is("has of another set", x.has(1, 60), 0);
        due.is("has(8, 0)", x.has(8, 0), BAD);
        due.is("has(-1, 0)", x.has(-1, 0), BAD);
    }

    private static void rank(Index x) {
        due.is("rank 0", x.rank(0, 0), 0);
        due.is("rank 60", x.rank(0, 60), 1);
        due.is("rank 63", x.rank(0, 63), 4);
        due.is("rank 64", x.rank(0, 64), 5);
        due.is("rank 65535", x.rank(0, 65535), 11);
        due.is("rank of a key between", x.rank(0, 2 << 16), 11);
        due.is("rank of 3 << 16", x.rank(0, 3 << 16), 12);
        due.is("rank of (4 << 16) - 1", x.rank(0, (4 << 16) - 1), 13);
        due.is("rank MAX", x.rank(0, Integer.MAX_VALUE), 13);
        due.is("rank MIN", x.rank(0, Integer.MIN_VALUE), 14);
        due.is("rank MIN + 3", x.rank(0, Integer.MIN_VALUE + 3), 15);
        due.is("rank -1", x.rank(0, -1), 13 + 21846 + 536);
        due.is("rank -2", x.rank(0, -2), 13 + 21846 + 535);
        due.is("rank(8, 0)", x.rank(8, 0), BAD);
        due.is("rank(-1, 0)", x.rank(-1, 0), BAD);
    }

    private static void select(Index x) {
        due.is("select 0", x.select(0, 0), 60);
        due.is("select 10", x.select(0, 10), 70);
        due.is("select 11", x.select(0, 11), 3L << 16);
        due.is("select 12", x.select(0, 12), (4L << 16) - 1);
        due.is("select 13", x.select(0, 13), 2147483648L);
        due.is("select 14", x.select(0, 14), 2147483651L);
        int all = x.count(0, 0);
        due.is("select the last", x.select(0, all - 1), 4294967295L);
        due.is("select behind it", x.select(0, all), NONE);
        due.is("select MAX", x.select(0, Integer.MAX_VALUE), NONE);
        due.is("select(0, -1)", x.select(0, -1), BAD);
        due.is("select(0, MIN)", x.select(0, Integer.MIN_VALUE), BAD);
        due.is("select(8, 0)", x.select(8, 0), BAD);
        due.is("select(-1, 0)", x.select(-1, 0), BAD);
    }

    private static void next(Index x) {
        due.is("next 0", x.next(0, 0), 60);
        due.is("next 60", x.next(0, 60), 60);
        due.is("next 64", x.next(0, 64), 64);
        due.is("next 70", x.next(0, 70), 70);
        due.is("next 71", x.next(0, 71), 3L << 16);
        due.is("next of a key between", x.next(0, (2 << 16) + 9), 3L << 16);
        due.is("next of 3, 1", x.next(0, (3 << 16) + 1), (4L << 16) - 1);
        due.is("next MAX", x.next(0, Integer.MAX_VALUE), 2147483648L);
        due.is("next MIN + 1", x.next(0, Integer.MIN_VALUE + 1), 2147483651L);
        due.is("next -65536", x.next(0, -65536), 4294967295L - 535);
        due.is("next -1", x.next(0, -1), 4294967295L);
        due.is("next of none", x.next(1, 0), NONE);
        due.is("next(8, 0)", x.next(8, 0), BAD);
        due.is("next(-1, 0)", x.next(-1, 0), BAD);
        Index y = new CountedIndex();
        y.add(0, 5);
        due.is("next behind the last low", y.next(0, 6), NONE);
        due.is("next behind the last key", y.next(0, -1), NONE);
    }

    private static void count(Index x) {
        due.is("numbers", x.count(0, 0), 13 + 21846 + 536);
        due.is("containers", x.count(0, 1), 4);
        due.is("arrays", x.count(0, 2), 1);
        due.is("bitmaps", x.count(0, 3), 1);
        due.is("runs", x.count(0, 4), 2);
        due.is("count(0, 5)", x.count(0, 5), BAD);
        due.is("count(0, -1)", x.count(0, -1), BAD);
        due.is("count(8, 0)", x.count(8, 0), BAD);
        due.is("count(-1, 0)", x.count(-1, 0), BAD);
        Index y = new CountedIndex();
        for (int k = 0; k < 6; k++) {
            y.range(0, k, 0, 65535, 0);
        }
        due.is("as many as can be", y.count(0, 0), 6 * 65536);
    }

    private static void container(Index x) {
        int[][] rows = {{0, 2, 11, 1}, {3, 0, 2, 2}, {32768, 1, 21846, 21846}, {65535, 2, 536, 1}};
        for (int k = 0; k < rows.length; k++) {
            for (int what = 0; what < 4; what++) {
                due.is("container(0, " + k + ", " + what + ")", x.container(0, k, what), rows[k][what]);
            }
        }
        due.is("container(0, 4, 0)", x.container(0, 4, 0), BAD);
        due.is("container(0, -1, 0)", x.container(0, -1, 0), BAD);
        due.is("container(0, 0, 4)", x.container(0, 0, 4), BAD);
        due.is("container(0, 0, -1)", x.container(0, 0, -1), BAD);
        due.is("container(8, 0, 0)", x.container(8, 0, 0), BAD);
        due.is("container(-1, 0, 0)", x.container(-1, 0, 0), BAD);
        due.is("container(1, 0, 0)", x.container(1, 0, 0), BAD);
        Index y = new CountedIndex();
        y.range(0, 0, 63, 64, 0);
        due.is("one run over two words", y.container(0, 0, 3), 1);
        y.add(0, 66);
        due.is("two runs", y.container(0, 0, 3), 2);
        y.steps(0, 0, 1, 2);
        y.range(0, 0, 0, 65535, 2);
        y.clear(1);
        y.steps(1, 0, 0, 2);
        due.is("as many runs as can be", y.container(1, 0, 3), 32768);
    }

    private static void anEmptySet() {
        Index x = new CountedIndex();
        due.is("has", x.has(0, 0), 0);
        due.is("rank", x.rank(0, -1), 0);
        due.is("select", x.select(0, 0), NONE);
        due.is("next", x.next(0, 0), NONE);
        due.is("container", x.container(0, 0, 0), BAD);
    }

    /** select and rank undo each other over a set with all kinds of words. */
    private static void againstEachOther() {
        for (int first = 0; first < 60; first++) {
            Index x = new CountedIndex();
            x.steps(0, 7, 1, 7);
            x.range(0, 7, 1000, 2000, 0);
            x.range(0, 9, 63, 63, 0);
            int all = x.count(0, 0);
            for (int i = first; i < all; i += 67) {
                long v = x.select(0, i);
                due.is("rank of select " + i, x.rank(0, (int) v), i + 1);
                due.is("next of select " + i, x.next(0, (int) v), v);
            }
        }
    }

    private static void compare() {
        Index x = new CountedIndex();
        due.is("two empty ones", x.compare(0, 1), 2);
        x.range(1, 1, 0, 9, 0);
        due.is("empty, some", x.compare(0, 1), 3);
        due.is("some, empty", x.compare(1, 0), 4);
        due.is("with itself", x.compare(1, 1), 2);
        x.range(2, 1, 0, 9, 0);
        x.shrink(2);
        due.is("the same of another kind", x.compare(1, 2), 2);
        x.add(2, -1);
        due.is("a in b", x.compare(1, 2), 3);
        due.is("b in a", x.compare(2, 1), 4);
        x.add(1, 0);
        due.is("some", x.compare(1, 2), 1);
        due.is("some, turned", x.compare(2, 1), 1);
        x.range(3, 1, 10, 19, 0);
        due.is("none of one key", x.compare(1, 3), 0);
        x.range(4, 2, 0, 9, 0);
        due.is("none, other keys", x.compare(1, 4), 0);
        x.range(3, 1, 9, 9, 0);
        due.is("just one", x.compare(1, 3), 1);
        due.is("compare(8, 0)", x.compare(8, 0), BAD);
        due.is("compare(0, 8)", x.compare(0, 8), BAD);
        due.is("compare(-1, 0)", x.compare(-1, 0), BAD);
        due.is("compare(0, -1)", x.compare(0, -1), BAD);
    }
}

/** Promises 1 to 9: a new object, add, remove, range, steps, clear, join, shrink, formula. */
public final class SetsTest {
    private static final int BAD = -2, FULL = -3, SPENT = -5;
    private static final Due due = new Due("SetsTest");

    public static void main(String[] args) {
        aNewObject();
        add();
        remove();
        range();
        rangeAtWordEdges();
        steps();
        clear();
        kindsByChange();
        join();
        joinKinds();
        joinFull();
        shrink();
        shrinkEdges();
        formula();
        formulaKinds();
        formulaBad();
        formulaFull();
        spent();
        due.end();
    }

    private static void aNewObject() {
        Index x = new CountedIndex();
        for (int s = 0; s < 8; s++) {
            for (int what = 0; what <= 4; what++) {
                due.is("new count(" + s + ", " + what + ")", x.count(s, what), 0);
            }
        }
        due.is("new size()", x.size(), 0);
        due.is("new fault()", x.fault(), 0);
        due.is("new work()", x.work(), 300);
        long h = 17;
        for (int k = 0; k < 16; k++) {
            h = 31 * h;
        }
        due.is("new digest()", x.digest(), h);
    }

    private static void add() {
        Index x = new CountedIndex();
        due.is("add(0, 7)", x.add(0, 7), 1);
        due.is("add(0, 7) again", x.add(0, 7), 0);
        due.is("add(7, -1)", x.add(7, -1), 1);
        due.is("add(7, MIN)", x.add(7, Integer.MIN_VALUE), 1);
        due.is("key of MIN", x.container(7, 0, 0), 32768);
        due.is("key of -1", x.container(7, 1, 0), 65535);
        due.is("add(-1, 7)", x.add(-1, 7), BAD);
        due.is("add(8, 7)", x.add(8, 7), BAD);
        due.is("add(MIN, 7)", x.add(Integer.MIN_VALUE, 7), BAD);
        for (int k = 5; k >= 0; k--) {
            due.is("add key " + k, x.add(3, k << 16), 1);
        }
        for (int k = 0; k < 6; k++) {
            due.is("key " + k, x.container(3, k, 0), k);
        }
        long before = x.digest();
        due.is("add a seventh", x.add(3, 6 << 16), FULL);
        due.is("add a seventh of -1", x.add(3, -1), FULL);
        due.is("a FULL changes nothing", x.digest(), before);
        due.is("add to one of the six", x.add(3, (5 << 16) + 1), 1);
    }

    private static void remove() {
        Index x = new CountedIndex();
        due.is("remove from an empty one", x.remove(0, 7), 0);
        x.add(0, 7);
        x.add(0, 65536);
        x.add(0, 131072);
        due.is("remove(0, 8)", x.remove(0, 8), 0);
        due.is("remove(0, 65537)", x.remove(0, 65537), 0);
        due.is("remove(0, 65536)", x.remove(0, 65536), 1);
        due.is("remove(0, 65536) again", x.remove(0, 65536), 0);
        due.is("an empty container goes", x.count(0, 1), 2);
        due.is("the next one comes down", x.container(0, 1, 0), 2);
        due.is("remove(8, 7)", x.remove(8, 7), BAD);
        due.is("remove(-1, 7)", x.remove(-1, 7), BAD);
        x.add(0, 65536);
        due.is("what was removed stays gone", x.container(0, 1, 2), 1);
    }

    private static void range() {
        Index x = new CountedIndex();
        due.is("all", x.range(0, 9, 0, 65535, 0), 65536);
        due.is("go in part", x.range(0, 9, 1, 65534, 1), 2);
        due.is("flip", x.range(0, 9, 0, 1, 2), 2);
        due.is("0 went", x.has(0, 9 << 16), 0);
        due.is("1 came", x.has(0, (9 << 16) + 1), 1);
        due.is("flip to nothing", x.range(0, 9, 1, 1, 2), 1);
        due.is("flip the last", x.range(0, 9, 65535, 65535, 2), 0);
        due.is("no container is left", x.count(0, 1), 0);
        due.is("go where nothing is", x.range(0, 3, 0, 9, 1), 0);
        due.is("no container is made", x.count(0, 1), 0);
        int[][] bad = {{-1, 0, 0, 0, 0}, {8, 0, 0, 0, 0}, {0, -1, 0, 0, 0}, {0, 65536, 0, 0, 0},
            {0, 0, -1, 0, 0}, {0, 0, 0, 65536, 0}, {0, 0, 65536, 65536, 0}, {0, 0, 2, 1, 0},
            {0, 0, 0, 0, -1}, {0, 0, 0, 0, 3}, {0, 0, 2, 1, 1}};
        for (int[] b : bad) {
            due.is("range of " + java.util.Arrays.toString(b), x.range(b[0], b[1], b[2], b[3], b[4]), BAD);
        }
        Made.six(x, 1);
        due.is("a seventh comes", x.range(1, 99, 0, 5, 0), FULL);
        due.is("a seventh is flipped", x.range(1, 99, 0, 5, 2), FULL);
        due.is("a seventh goes", x.range(1, 99, 0, 5, 1), 6);
        due.is("BAD is ahead of FULL", x.range(1, 99, 5, 4, 0), BAD);
    }

    private static void rangeAtWordEdges() {
        int[] edges = {0, 1, 62, 63, 64, 65, 127, 128, 65471, 65472, 65534, 65535};
        for (int from : edges) {
            for (int to : edges) {
                if (from > to) {
                    continue;
                }
                Index x = new CountedIndex();
                String span = from + " .. " + to;
                due.is(span + " come", x.range(0, 0, from, to, 0), to - from + 1);
                due.is(span + " first", x.next(0, 0), from);
                due.is(span + " last", x.select(0, to - from), to);
                x.range(1, 0, 0, 65535, 0);
                due.is(span + " go", x.range(1, 0, from, to, 1), 65536 - (to - from + 1));
                due.is(span + " out", x.compare(0, 1), from == 0 && to == 65535 ? 4 : 0);
                due.is(span + " flip back", x.range(1, 0, from, to, 2), 65536);
            }
        }
    }

    private static void steps() {
        Index x = new CountedIndex();
        due.is("each", x.steps(0, 0, 0, 1), 65536);
        due.is("one", x.steps(1, 65535, 65535, 65535), 1);
        due.is("that one", x.has(1, -1), 1);
        due.is("two", x.steps(2, 0, 0, 65535), 2);
        due.is("with a new one", x.steps(2, 0, 0, 3), 21846);
        due.is("none is new", x.steps(2, 0, 3, 6), 21846);
        due.is("step 0", x.steps(0, 0, 0, 0), BAD);
        due.is("step -1", x.steps(0, 0, 0, -1), BAD);
        due.is("step 65536", x.steps(0, 0, 0, 65536), BAD);
        due.is("step MIN", x.steps(0, 0, 0, Integer.MIN_VALUE), BAD);
        due.is("from -1", x.steps(0, 0, -1, 1), BAD);
        due.is("from 65536", x.steps(0, 0, 65536, 1), BAD);
        due.is("key -1", x.steps(0, -1, 0, 1), BAD);
        due.is("key 65536", x.steps(0, 65536, 0, 1), BAD);
        due.is("set 8", x.steps(8, 0, 0, 1), BAD);
        due.is("set -1", x.steps(-1, 0, 0, 1), BAD);
        Made.six(x, 3);
        due.is("a seventh", x.steps(3, 99, 0, 9), FULL);
        due.is("one of six", x.steps(3, 5, 0, 65535), 7);
    }

    private static void clear() {
        Index x = new CountedIndex();
        due.is("clear an empty one", x.clear(0), 0);
        Made.six(x, 0);
        x.range(0, 5, 0, 9999, 0);
        due.is("clear(0)", x.clear(0), 10005);
        due.is("empty then", x.count(0, 0), 0);
        due.is("no container then", x.count(0, 1), 0);
        due.is("nothing to find", x.next(0, 0), -1);
        due.is("room again", x.add(0, -1), 1);
        due.is("just that", x.count(0, 0), 1);
        due.is("clear(8)", x.clear(8), BAD);
        due.is("clear(-1)", x.clear(-1), BAD);
    }

    /** A container changed is an array up to 4096; one that is left as it was keeps its kind. */
    private static void kindsByChange() {
        Index x = new CountedIndex();
        x.range(0, 0, 0, 4095, 0);
        due.is("4096 are an array", x.container(0, 0, 1), 0);
        x.add(0, 4096);
        due.is("4097 are a bitmap", x.container(0, 0, 1), 1);
        x.remove(0, 0);
        due.is("4096 again", x.container(0, 0, 1), 0);
        due.is("shrink", x.shrink(0), 1);
        x.add(0, 5);
        due.is("add of one that is there", x.container(0, 0, 1), 2);
        x.remove(0, 60000);
        due.is("remove of one that is not", x.container(0, 0, 1), 2);
        x.range(0, 0, 1, 4096, 0);
        due.is("range of those there", x.container(0, 0, 1), 2);
        x.range(0, 0, 4097, 65535, 1);
        due.is("range of those not there", x.container(0, 0, 1), 2);
        x.steps(0, 0, 4096, 65535);
        due.is("steps of one there", x.container(0, 0, 1), 2);
        x.range(0, 0, 0, 0, 2);
        due.is("a flip changes", x.container(0, 0, 1), 1);
        x.shrink(0);
        x.remove(0, 0);
        due.is("a remove changes", x.container(0, 0, 1), 0);
        x.shrink(0);
        x.add(0, 65536);
        due.is("another container leaves it", x.container(0, 0, 1), 2);
        x.steps(0, 0, 0, 1000);
        due.is("steps change", x.container(0, 0, 1), 1);
    }

    private static void join() {
        Index x = new CountedIndex();
        x.range(0, 1, 0, 9, 0);
        x.range(0, 2, 0, 9, 0);
        x.range(1, 2, 5, 14, 0);
        x.range(1, 3, 0, 9, 0);
        due.is("and", x.join(2, 0, 0, 1), 5);
        due.is("and: the key", x.container(2, 0, 0), 2);
        due.is("or", x.join(3, 1, 0, 1), 35);
        due.is("or: containers", x.count(3, 1), 3);
        due.is("xor", x.join(4, 2, 0, 1), 30);
        due.is("but", x.join(5, 3, 0, 1), 15);
        due.is("but: the other way", x.join(6, 3, 1, 0), 15);
        due.is("but: its last key", x.container(6, 1, 0), 3);
        due.is("xor with itself", x.join(7, 2, 0, 0), 0);
        due.is("no container", x.count(7, 1), 0);
        due.is("a and b are as they were", x.count(0, 0) + x.count(1, 0), 40);
        due.is("to is a", x.join(0, 1, 0, 1), 35);
        due.is("the same as before", x.compare(0, 3), 2);
        due.is("to is b", x.join(1, 3, 0, 1), 15);
        due.is("to is both", x.join(1, 1, 1, 1), 15);
        due.is("to is both, nothing is left", x.join(1, 3, 1, 1), 0);
        int work = x.work();
        int[][] bad = {{8, 0, 0, 0}, {-1, 0, 0, 0}, {0, 4, 0, 0}, {0, -1, 0, 0}, {0, 0, 8, 0}, {0, 0, -1, 0},
            {0, 0, 0, 8}, {0, 0, 0, -1}};
        for (int[] b : bad) {
            due.is("join of " + java.util.Arrays.toString(b), x.join(b[0], b[1], b[2], b[3]), BAD);
        }
        due.is("BAD takes no work", x.work(), work);
    }

    private static void joinKinds() {
        Index x = new CountedIndex();
        x.range(0, 0, 0, 99, 0);
        x.shrink(0);
        x.range(1, 0, 0, 99, 0);
        x.join(2, 0, 0, 1);
        due.is("as both: of a", x.container(2, 0, 1), 2);
        x.join(2, 0, 1, 0);
        due.is("as both, turned: of a", x.container(2, 0, 1), 0);
        x.range(1, 0, 0, 199, 0);
        x.join(2, 0, 1, 0);
        due.is("and gives b", x.container(2, 0, 1), 2);
        x.join(2, 1, 1, 0);
        due.is("or gives a", x.container(2, 0, 1), 0);
        x.range(3, 7, 0, 5, 0);
        x.join(2, 3, 0, 3);
        due.is("but with no such key", x.container(2, 0, 1), 2);
        x.join(2, 2, 3, 0);
        due.is("xor with no such key in a", x.container(2, 0, 1), 2);
        due.is("and that of a", x.container(2, 1, 1), 0);
        x.clear(3);
        x.range(3, 0, 50, 149, 0);
        x.shrink(3);
        x.join(2, 1, 0, 3);
        due.is("new lows of two of runs", x.container(2, 0, 1), 0);
        x.range(0, 0, 0, 4095, 0);
        x.range(1, 0, 1, 4096, 0);
        x.join(2, 1, 0, 1);
        due.is("4097 by or", x.container(2, 0, 1), 1);
        x.range(1, 0, 0, 0, 0);
        x.range(1, 0, 4097, 4097, 0);
        x.join(2, 3, 1, 3);
        due.is("3998 by but", x.container(2, 0, 1), 0);
        x.range(4, 0, 0, 9999, 0);
        x.shrink(4);
        x.join(2, 3, 4, 4);
        x.join(2, 1, 2, 4);
        due.is("or with an empty one", x.container(2, 0, 1), 2);
    }

    private static void joinFull() {
        Index x = new CountedIndex();
        Made.six(x, 0);
        for (int k = 10; k < 16; k++) {
            x.add(1, k << 16);
        }
        x.add(2, 77);
        long before = x.digest();
        due.is("twelve", x.join(2, 1, 0, 1), FULL);
        due.is("twelve by xor", x.join(2, 2, 1, 0), FULL);
        due.is("a FULL changes nothing", x.digest(), before);
        due.is("but takes work", x.work(), 298);
        due.is("six less none", x.join(2, 3, 0, 1), 6);
        x.clear(1);
        x.add(1, 5 << 16);
        x.add(1, 6 << 16);
        due.is("seven by or", x.join(2, 1, 0, 1), FULL);
        due.is("six by xor", x.join(2, 2, 0, 1), 6);
        due.is("the last key", x.container(2, 5, 0), 6);
        x.clear(1);
        x.add(1, (5 << 16) + 1);
        due.is("six with seven numbers", x.join(2, 1, 0, 1), 7);
        x.clear(3);
        for (int k = 1; k < 7; k++) {
            x.add(3, k << 16);
        }
        due.is("xor of 0 .. 5 and 1 .. 6", x.join(4, 2, 0, 3), 2);
    }

    private static void shrink() {
        Index x = new CountedIndex();
        due.is("shrink an empty one", x.shrink(0), 0);
        x.range(0, 0, 0, 65535, 0);
        x.steps(0, 1, 0, 2);
        x.steps(0, 2, 0, 5000);
        x.range(0, 3, 0, 3, 0);
        due.is("two are runs", x.shrink(0), 2);
        int[] kinds = {2, 1, 0, 2};
        for (int k = 0; k < 4; k++) {
            due.is("kind of " + k, x.container(0, k, 1), kinds[k]);
        }
        due.is("work", x.work(), 298);
        due.is("shrink(8)", x.shrink(8), BAD);
        due.is("shrink(-1)", x.shrink(-1), BAD);
        due.is("BAD takes no work", x.work(), 298);
    }

    private static void shrinkEdges() {
        Index x = new CountedIndex();
        x.range(0, 0, 10, 12, 0);
        due.is("6 bytes are not below 6", x.shrink(0), 0);
        x.range(0, 0, 10, 13, 0);
        due.is("6 bytes are below 8", x.shrink(0), 1);
        x.clear(0);
        putPairs(x, 0, 2046, 4);
        x.range(0, 0, 2046 * 4, 2046 * 4 + 10, 0);
        due.is("2047 runs", x.container(0, 0, 3), 2047);
        due.is("4103 numbers", x.container(0, 0, 2), 4103);
        due.is("8190 bytes are below 8192", x.shrink(0), 1);
        x.add(0, 65535);
        due.is("8194 bytes are not", x.shrink(0), 0);
        due.is("a bitmap", x.container(0, 0, 1), 1);
        readRunsOfSingles(x, 1, 5);
        due.is("runs that are longer than an array", x.container(1, 0, 1), 2);
        due.is("become one", x.shrink(1), 0);
        due.is("the array", x.container(1, 0, 1), 0);
    }

    private static void formula() {
        Index x = new CountedIndex();
        x.range(0, 0, 0, 9, 0);
        x.range(1, 0, 5, 14, 0);
        x.range(2, 0, 8, 20, 0);
        due.is("0", x.formula(7, Made.signs(0), 1), 10);
        due.is("0 1 and", x.formula(7, Made.signs(0, 1, 16), 3), 5);
        due.is("0 1 or", x.formula(7, Made.signs(0, 1, 17), 3), 15);
        due.is("0 1 xor", x.formula(7, Made.signs(0, 1, 18), 3), 10);
        due.is("0 1 but", x.formula(7, Made.signs(0, 1, 19), 3), 5);
        due.is("the first five", x.select(7, 4), 4);
        due.is("1 0 but", x.formula(7, Made.signs(1, 0, 19), 3), 5);
        due.is("the last five", x.select(7, 0), 10);
        due.is("0 1 2 and or", x.formula(7, Made.signs(0, 1, 2, 16, 17), 5), 15);
        due.is("0 1 and 2 or", x.formula(7, Made.signs(0, 1, 16, 2, 17), 5), 16);
        due.is("0 1 2 but but", x.formula(7, Made.signs(0, 1, 2, 19, 19), 5), 7);
        due.is("all 0 but", x.formula(7, Made.signs(20, 0, 19), 3), 65526);
        due.is("all", x.formula(7, Made.signs(20), 1), 65536);
        due.is("of one container", x.count(7, 1), 1);
        due.is("of key 0", x.container(7, 0, 0), 0);
        due.is("a bitmap", x.container(7, 0, 1), 1);
        due.is("to is used", x.formula(0, Made.signs(0, 1, 0, 16, 17), 5), 10);
        due.is("nothing is passed over", x.formula(7, Made.signs(255, 0, 255, 1, 255, 17, 255, 255), 8), 15);
        due.is("what is behind n is not looked at", x.formula(7, Made.signs(1, 99, 99, 0, 0, 0, 0, 255), 1), 10);
        due.is("seven signs", x.formula(7, Made.signs(0, 1, 2, 20, 18, 18, 18), 7), 65536 - 13);
        due.is("a copy of itself", x.formula(0, Made.signs(0), 1), 10);
        due.is("an empty one", x.formula(7, Made.signs(6), 1), 0);
        due.is("work", x.work(), 300 - 1 - 5 * 3 - 3 * 5 - 3 - 1 - 5 - 8 - 1 - 7 - 1 - 1);
    }

    private static void formulaKinds() {
        Index x = new CountedIndex();
        x.range(0, 0, 0, 99, 0);
        x.shrink(0);
        x.range(1, 0, 0, 99, 0);
        x.range(2, 0, 0, 199, 0);
        x.formula(7, Made.signs(0), 1);
        due.is("a set so", x.container(7, 0, 1), 2);
        x.formula(7, Made.signs(1, 0, 16), 3);
        due.is("the lower one ahead", x.container(7, 0, 1), 0);
        x.formula(7, Made.signs(0, 1, 16), 3);
        due.is("the lower one of runs", x.container(7, 0, 1), 2);
        x.formula(7, Made.signs(2, 0, 16), 3);
        due.is("just the upper one", x.container(7, 0, 1), 2);
        x.formula(7, Made.signs(2, 0, 16, 20, 16), 5);
        due.is("kept through the pile", x.container(7, 0, 1), 2);
        x.formula(7, Made.signs(2, 0, 19, 0, 17), 5);
        due.is("200 made anew", x.container(7, 0, 1), 0);
        x.range(3, 0, 0, 65535, 0);
        x.shrink(3);
        x.formula(7, Made.signs(20, 3, 17), 3);
        due.is("all ahead of runs", x.container(7, 0, 1), 1);
        x.formula(7, Made.signs(3, 20, 17), 3);
        due.is("runs ahead of all", x.container(7, 0, 1), 2);
    }

    private static void formulaBad() {
        Index x = new CountedIndex();
        x.add(0, 1);
        x.add(7, 5);
        long before = x.digest();
        due.is("n 0", x.formula(7, 0, 0), BAD);
        due.is("n 9", x.formula(7, Made.signs(0, 255, 255, 255, 255, 255, 255, 255), 9), BAD);
        due.is("n -1", x.formula(7, 0, -1), BAD);
        due.is("n MIN", x.formula(7, 0, Integer.MIN_VALUE), BAD);
        due.is("to 8", x.formula(8, 0, 1), BAD);
        due.is("to -1", x.formula(-1, 0, 1), BAD);
        int[] none = {8, 9, 15, 21, 32, 127, 128, 254};
        for (int sign : none) {
            due.is("sign " + sign, x.formula(7, Made.signs(sign), 1), BAD);
            due.is("0, then sign " + sign, x.formula(7, Made.signs(0, sign), 2), BAD);
        }
        for (int sign = 16; sign <= 19; sign++) {
            due.is("no set for " + sign, x.formula(7, Made.signs(sign), 1), BAD);
            due.is("one set for " + sign, x.formula(7, Made.signs(0, sign), 2), BAD);
            due.is("one set late for " + sign, x.formula(7, Made.signs(0, sign, 0), 3), BAD);
        }
        due.is("two in the end", x.formula(7, Made.signs(0, 0), 2), BAD);
        due.is("none in the end", x.formula(7, Made.signs(255), 1), BAD);
        due.is("eight in the end", x.formula(7, Made.signs(0, 1, 2, 3, 4, 5, 6, 7), 8), BAD);
        due.is("nothing has changed", x.digest(), before);
        due.is("no work is taken", x.work(), 300);
    }

    private static void formulaFull() {
        Index x = new CountedIndex();
        Made.six(x, 0);
        x.add(1, 6 << 16);
        x.add(7, 5);
        long before = x.digest();
        due.is("seven", x.formula(7, Made.signs(0, 1, 17), 3), FULL);
        due.is("seven on the pile alone", x.formula(7, Made.signs(0, 1, 17, 1, 16), 5), FULL);
        due.is("BAD is ahead of it", x.formula(7, Made.signs(0, 1, 17, 1), 4), BAD);
        due.is("nothing has changed", x.digest(), before);
        due.is("work is taken", x.work(), 292);
        due.is("after it all is well", x.formula(7, Made.signs(0, 0, 17), 3), 6);
    }

    private static void spent() {
        Index x = new CountedIndex();
        Made.six(x, 0);
        x.add(1, -1);
        for (int k = 0; k < 37; k++) {
            x.formula(2, Made.signs(255, 0, 255, 255, 255, 255, 255, 255), 8);
        }
        due.is("left", x.work(), 4);
        due.is("not enough", x.formula(2, Made.signs(0, 1, 255, 17, 255), 5), SPENT);
        due.is("it takes none", x.work(), 4);
        due.is("FULL takes 3", x.formula(2, Made.signs(0, 1, 17), 3), FULL);
        due.is("not enough for 2", x.formula(0, Made.signs(0, 255), 2), SPENT);
        due.is("one is left", x.join(2, 1, 0, 1), FULL);
        due.is("none is left", x.work(), 0);
        due.is("join", x.join(2, 1, 0, 1), SPENT);
        due.is("shrink", x.shrink(0), SPENT);
        due.is("read", x.read(0), SPENT);
        due.is("formula", x.formula(0, 0, 1), SPENT);
        due.is("BAD is ahead: join", x.join(8, 1, 0, 1), BAD);
        due.is("BAD is ahead: shrink", x.shrink(8), BAD);
        due.is("BAD is ahead: read", x.read(8), BAD);
        due.is("BAD is ahead: formula", x.formula(0, 16, 1), BAD);
        due.is("still none", x.work(), 0);
        due.is("add needs none", x.add(3, 1), 1);
        due.is("write needs none", x.write(3), 18);
    }

    private static void putPairs(Index x, int set, int pairs, int apart) {
        x.steps(set, 0, 0, apart);
        x.steps(set, 0, 1, apart);
        x.range(set, 0, pairs * apart, 65535, 1);
    }

    /** A container of runs of one number each, as only a read can make it. */
    private static void readRunsOfSingles(Index x, int set, int n) {
        x.cut(0);
        x.type(12347, 4);
        x.type(1, 1);
        x.type(0, 2);
        x.type(n - 1, 2);
        x.type(n, 2);
        for (int k = 0; k < n; k++) {
            x.type(2 * k, 4);
        }
        x.read(set);
    }
}

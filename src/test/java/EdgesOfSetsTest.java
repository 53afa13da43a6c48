import java.util.Map;
import java.util.TreeMap;

/** The boundary cases, sentence by sentence, of Terms part 1 (SETS and CONTAINERS) and of promises 1 to 8. */
public final class EdgesOfSetsTest {
    private static final int NONE = -1, BAD = -2, FULL = -3, SPENT = -5;
    private static final int MIN = Integer.MIN_VALUE, MAX = Integer.MAX_VALUE;
    private static final int[] NO_SETS = {MIN, -8, -1, 8, 9, 256, 65536, MAX};
    private static final int[] NO_HALVES = {MIN, -65535, -1, 65536, 65537, 131071, MAX};
    private static final Due due = new Due("EdgesOfSetsTest");

    /** A call with one argument left open. */
    private interface OfOne {
        long ask(Index x, int v);
    }

    public static void main(String[] args) {
        termsOfSets();
        termsOfContainers();
        termsOfKinds();
        promise1();
        promise2();
        promise3();
        promise4();
        promise5();
        promise6();
        promise7();
        promise8();
        due.end();
    }

    private static void termsOfSets() {
        setsAreEmptyAtFirst();
        setsAreZeroToSeven();
        orderIsWithoutASign();
        keysAndLowsAreHalves();
    }

    private static void termsOfContainers() {
        aContainerHoldsOneAtLeast();
        aContainerThatIsEmptiedByAJoinIsNone();
        aSetHasUpToSix();
        keysRise();
        kindsByNumber();
        runsAreTheFewestRows();
    }

    private static void termsOfKinds() {
        arrayUpTo4096ByAddAndRemove();
        arrayUpTo4096ByRange();
        arrayUpTo4096BySteps();
        arrayUpTo4096ByJoin();
        arrayUpTo4096ByFormula();
        shrinkOfAnArray();
        shrinkOfABitmap();
        shrinkOfRunsThatAreTooLong();
        lowsAsTheyWereLeaveTheKind();
        refusedCallsLeaveTheKind();
    }

    // ---- Terms, 1 SETS

    private static void setsAreEmptyAtFirst() {
        due.says("Terms", "7 (empty at first) have NUMBERS of 32 bits, told by ints, "
            + "in the order of their bits without a sign (-1 is the greatest).");
        Index x = new CountedIndex();
        for (int set = 0; set < 8; set++) {
            for (int what = 0; what <= 4; what++) {
                due.is("count(" + set + ", " + what + ")", x.count(set, what), 0);
            }
            due.is("next(" + set + ", 0)", x.next(set, 0), NONE);
            due.is("select(" + set + ", 0)", x.select(set, 0), NONE);
            due.is("rank(" + set + ", -1)", x.rank(set, -1), 0);
        }
    }

    private static Map<String, OfOne> callsWithASet() {
        Map<String, OfOne> calls = new TreeMap<>();
        calls.put("add(s, 99)", (x, s) -> x.add(s, 99));
        calls.put("remove(s, 5)", (x, s) -> x.remove(s, 5));
        calls.put("range(s, 0, 0, 9, 2)", (x, s) -> x.range(s, 0, 0, 9, 2));
        calls.put("steps(s, 0, 0, 1)", (x, s) -> x.steps(s, 0, 0, 1));
        calls.put("clear(s)", (x, s) -> x.clear(s));
        calls.put("join(s, 1, 0, 7)", (x, s) -> x.join(s, 1, 0, 7));
        calls.put("join(1, 1, s, 7)", (x, s) -> x.join(1, 1, s, 7));
        calls.put("join(1, 1, 0, s)", (x, s) -> x.join(1, 1, 0, s));
        calls.put("shrink(s)", (x, s) -> x.shrink(s));
        calls.put("formula(s, 20, 1)", (x, s) -> x.formula(s, 20, 1));
        calls.put("has(s, 5)", (x, s) -> x.has(s, 5));
        calls.put("rank(s, 5)", (x, s) -> x.rank(s, 5));
        calls.put("select(s, 0)", (x, s) -> x.select(s, 0));
        calls.put("next(s, 0)", (x, s) -> x.next(s, 0));
        calls.put("count(s, 0)", (x, s) -> x.count(s, 0));
        calls.put("container(s, 0, 0)", (x, s) -> x.container(s, 0, 0));
        calls.put("compare(s, 0)", (x, s) -> x.compare(s, 0));
        calls.put("compare(0, s)", (x, s) -> x.compare(0, s));
        calls.put("write(s)", (x, s) -> x.write(s));
        calls.put("read(s)", (x, s) -> x.read(s));
        return calls;
    }

    /** Sets 0 and 7 have numbers, the bytes can be read, and the latest read found fault 2. */
    private static Index filled() {
        Index x = new CountedIndex();
        x.range(0, 0, 0, 9, 0);
        x.range(7, 0, 5, 14, 0);
        x.type(0, 4);
        x.read(3);
        x.write(7);
        return x;
    }

    private static void setsAreZeroToSeven() {
        due.says("Terms", "7 (empty at first) have NUMBERS of 32 bits, told by ints, "
            + "in the order of their bits without a sign (-1 is the greatest).");
        for (Map.Entry<String, OfOne> call : callsWithASet().entrySet()) {
            Index x = filled();
            Watch watch = new Watch(due, x);
            for (int s : NO_SETS) {
                watch.refused(call.getKey() + " with s " + s, call.getValue().ask(x, s), BAD);
            }
            due.holds(call.getKey() + " with s 0", call.getValue().ask(filled(), 0) >= 0);
            due.holds(call.getKey() + " with s 7", call.getValue().ask(filled(), 7) >= 0);
        }
    }

    private static void orderIsWithoutASign() {
        due.says("Terms", "7 (empty at first) have NUMBERS of 32 bits, told by ints, "
            + "in the order of their bits without a sign (-1 is the greatest).");
        Index x = new CountedIndex();
        int[] rising = {0, 1, MAX - 1, MAX, MIN, MIN + 1, -2, -1};
        for (int k : new int[] {7, 2, 4, 0, 6, 3, 1, 5}) {
            due.is("add(0, " + rising[k] + ")", x.add(0, rising[k]), 1);
        }
        for (int i = 0; i < rising.length; i++) {
            long v = rising[i] & 0xFFFFFFFFL;
            due.is("select(0, " + i + ")", x.select(0, i), v);
            due.is("rank(0, " + rising[i] + ")", x.rank(0, rising[i]), i + 1);
            due.is("next(0, " + rising[i] + ")", x.next(0, rising[i]), v);
        }
        due.is("next behind the greatest with no sign bit", x.remove(0, MIN) + x.next(0, MIN), 1 + 2147483649L);
        due.is("rank(0, MIN) then", x.rank(0, MIN), 4);
    }

    private static void keysAndLowsAreHalves() {
        due.says("Terms", "KEY: the upper 16 bits, LOW: the lower 16 (both 0 .. 65535).");
        int[][] rows = {{0, 0, 0}, {65535, 0, 65535}, {65536, 1, 0}, {MAX, 32767, 65535}, {MIN, 32768, 0},
            {-65536, 65535, 0}, {-1, 65535, 65535}};
        for (int[] row : rows) {
            Index x = new CountedIndex();
            x.add(0, row[0]);
            due.is("KEY of " + row[0], x.container(0, 0, 0), row[1]);
            due.is("range with that KEY and LOW", x.range(1, row[1], row[2], row[2], 0), 1);
            due.is("is that number", x.has(1, row[0]), 1);
            due.is("steps with that KEY and LOW", x.steps(2, row[1], row[2], 65535), row[2] == 0 ? 2 : 1);
            due.is("has it too", x.has(2, row[0]), 1);
        }
        Map<String, OfOne> calls = new TreeMap<>();
        calls.put("range(0, h, 0, 9, 2)", (x, h) -> x.range(0, h, 0, 9, 2));
        calls.put("range(0, 0, h, 65535, 2)", (x, h) -> x.range(0, 0, h, 65535, 2));
        calls.put("range(0, 0, 0, h, 2)", (x, h) -> x.range(0, 0, 0, h, 2));
        calls.put("range(0, 0, h, h, 0)", (x, h) -> x.range(0, 0, h, h, 0));
        calls.put("range(0, h, 0, 9, 1)", (x, h) -> x.range(0, h, 0, 9, 1));
        calls.put("steps(0, h, 0, 1)", (x, h) -> x.steps(0, h, 0, 1));
        calls.put("steps(0, 0, h, 1)", (x, h) -> x.steps(0, 0, h, 1));
        for (Map.Entry<String, OfOne> call : calls.entrySet()) {
            Index x = filled();
            Watch watch = new Watch(due, x);
            for (int h : NO_HALVES) {
                watch.refused(call.getKey() + " with h " + h, call.getValue().ask(x, h), BAD);
            }
            due.holds(call.getKey() + " with h 0", call.getValue().ask(filled(), 0) >= 0);
            due.holds(call.getKey() + " with h 65535", call.getValue().ask(filled(), 65535) >= 0);
        }
    }

    // ---- Terms, 1 CONTAINERS

    private static void isGone(String how, Index x, int set) {
        due.is(how + ": NUMBERS", x.count(set, 0), 0);
        due.is(how + ": CONTAINERS", x.count(set, 1), 0);
        due.is(how + ": CONTAINER 0", x.container(set, 0, 0), BAD);
        due.is(how + ": written", x.write(set), 8);
    }

    private static void aContainerHoldsOneAtLeast() {
        due.says("Terms", "A CONTAINER holds the NUMBERS of a SET with one KEY, one at least;");
        Index x = new CountedIndex();
        x.add(0, 7);
        due.is("with one", x.count(0, 1), 1);
        x.remove(0, 7);
        isGone("remove of the last", x, 0);
        x.range(0, 9, 0, 65535, 0);
        x.range(0, 9, 0, 65535, 1);
        isGone("range of all that go", x, 0);
        x.range(0, 9, 3, 4, 0);
        x.range(0, 9, 3, 4, 2);
        isGone("range of all the other way", x, 0);
        x.range(0, 9, 3, 4, 1);
        isGone("range of none that go", x, 0);
        x.add(0, 1 << 16);
        x.add(0, 2 << 16);
        x.add(0, 3 << 16);
        x.remove(0, 2 << 16);
        due.is("the one in the middle goes", x.count(0, 1), 2);
        due.is("the next one has its place", x.container(0, 1, 0), 3);
        x.add(0, (2 << 16) + 5);
        due.is("a new one has the new NUMBER alone", x.container(0, 1, 2), 1);
        due.is("the old one is not there", x.has(0, 2 << 16), 0);
        due.is("those beside it stay", x.has(0, 1 << 16) + x.has(0, 3 << 16), 2);
        due.is("three in all", x.count(0, 0) * 10 + x.count(0, 1), 33);
    }

    private static void aContainerThatIsEmptiedByAJoinIsNone() {
        due.says("Terms", "A CONTAINER holds the NUMBERS of a SET with one KEY, one at least;");
        Index x = new CountedIndex();
        x.range(0, 4, 0, 9, 0);
        x.range(1, 4, 10, 19, 0);
        due.is("AND of none", x.join(2, 0, 0, 1), 0);
        isGone("AND of none", x, 2);
        due.is("XOR with itself", x.join(2, 2, 0, 0), 0);
        isGone("XOR with itself", x, 2);
        due.is("BUT itself", x.join(2, 3, 0, 0), 0);
        isGone("BUT itself", x, 2);
        due.is("a formula of none", x.formula(2, Made.signs(0, 1, 16), 3), 0);
        isGone("a formula of none", x, 2);
    }

    private static void aSetHasUpToSix() {
        due.says("Terms", "a SET has up to 6, by rising KEYS.");
        Index x = new CountedIndex();
        Made.six(x, 0);
        x.add(1, 6 << 16);
        due.is("six", x.count(0, 1), 6);
        Watch watch = new Watch(due, x);
        watch.refused("add of a seventh", x.add(0, 6 << 16), FULL);
        watch.refused("range, a seventh comes", x.range(0, 65535, 0, 65535, 0), FULL);
        watch.refused("range, a seventh the other way", x.range(0, 6, 9, 9, 2), FULL);
        watch.refused("steps of a seventh", x.steps(0, 6, 65535, 65535), FULL);
        watch.refusedFor(1, "OR with a seventh", x.join(2, 1, 0, 1), FULL);
        watch.refusedFor(1, "XOR with a seventh", x.join(0, 2, 0, 1), FULL);
        watch.refusedFor(3, "a formula with a seventh", x.formula(0, Made.signs(0, 1, 17), 3), FULL);
        x.remove(0, 3 << 16);
        due.is("with five there is room", x.add(0, 6 << 16), 1);
        due.is("six again", x.count(0, 1), 6);
    }

    private static void keysRise() {
        due.says("Terms", "a SET has up to 6, by rising KEYS.");
        int[] keys = {0, 1, 32767, 32768, 65534, 65535};
        int[][] orders = {{0, 1, 2, 3, 4, 5}, {5, 4, 3, 2, 1, 0}, {3, 0, 5, 1, 4, 2}, {2, 5, 0, 4, 1, 3}};
        for (int[] order : orders) {
            Index x = new CountedIndex();
            for (int k : order) {
                x.range(0, keys[k], 0, k, 0);
            }
            for (int k = 0; k < 6; k++) {
                due.is("KEY of " + k, x.container(0, k, 0), keys[k]);
                due.is("NUMBERS of " + k, x.container(0, k, 2), k + 1);
            }
        }
    }

    private static void kindsByNumber() {
        due.says("Terms", "KINDS: 0 ARRAY, 1 BITMAP, 2 RUNS.");
        Index x = new CountedIndex();
        x.steps(0, 0, 0, 1000);
        x.steps(0, 1, 0, 2);
        x.range(0, 2, 0, 9999, 0);
        x.shrink(0);
        for (int kind = 0; kind < 3; kind++) {
            due.is("KIND " + kind, x.container(0, kind, 1), kind);
            due.is("how many of KIND " + kind, x.count(0, 2 + kind), 1);
        }
    }

    private static void runsAreTheFewestRows() {
        due.says("Terms", "RUNS of a CONTAINER: its LOWS as the fewest rows without a gap.");
        int[][] spans = {{0, 0}, {65535, 65535}, {0, 65535}, {63, 64}, {62, 63}, {64, 65}, {0, 63}, {64, 127},
            {63, 128}, {65471, 65472}};
        for (int[] span : spans) {
            Index x = new CountedIndex();
            x.range(0, 0, span[0], span[1], 0);
            due.is("one row, " + span[0] + " to " + span[1], x.container(0, 0, 3), 1);
        }
        Index x = new CountedIndex();
        x.range(0, 3, 0, 9, 0);
        x.range(0, 3, 10, 19, 0);
        due.is("two rows that touch are one", x.container(0, 0, 3), 1);
        x.remove(0, (3 << 16) + 10);
        due.is("a gap of one makes two", x.container(0, 0, 3), 2);
        x.add(1, 0);
        x.add(1, 65535);
        due.is("LOWS 65535 and 0 do not touch", x.container(1, 0, 3), 2);
        x.add(1, 65536);
        due.is("nor do two KEYS: the first", x.container(1, 0, 3), 2);
        due.is("nor do two KEYS: the second", x.container(1, 1, 3), 1);
        x.steps(2, 0, 0, 2);
        due.is("as many as can be", x.container(2, 0, 3), 32768);
        x.steps(3, 0, 1, 2);
        due.is("as many, up to 65535", x.container(3, 0, 3), 32768);
        x.steps(4, 0, 63, 64);
        due.is("one at the end of each word", x.container(4, 0, 3), 1024);
        x.steps(4, 0, 64, 64);
        due.is("each goes on in the next word", x.container(4, 0, 3), 1024);
    }

    // ---- Terms, 1 KINDS by change

    private static void arrayUpTo4096ByAddAndRemove() {
        due.says("Terms", "One that is made or changed by a call is an ARRAY with 4096 LOWS or fewer, else a BITMAP;");
        Index x = new CountedIndex();
        x.add(0, 70000);
        due.is("one LOW", x.container(0, 0, 1), 0);
        x.range(0, 0, 0, 4094, 0);
        due.is("4095", x.container(0, 0, 1), 0);
        x.add(0, 65535);
        due.is("add: 4096", x.container(0, 0, 1), 0);
        x.add(0, 5000);
        due.is("add: 4097", x.container(0, 0, 1), 1);
        x.remove(0, 65535);
        due.is("remove: 4096", x.container(0, 0, 1), 0);
        x.range(0, 0, 0, 65535, 0);
        x.remove(0, 9);
        due.is("remove: 65535", x.container(0, 0, 1), 1);
        x.range(0, 0, 4098, 65535, 1);
        due.is("4097", x.container(0, 0, 2) * 10 + x.container(0, 0, 1), 40971);
        x.remove(0, 0);
        due.is("remove: 4096 of many", x.container(0, 0, 2) * 10 + x.container(0, 0, 1), 40960);
    }

    private static void arrayUpTo4096ByRange() {
        due.says("Terms", "One that is made or changed by a call is an ARRAY with 4096 LOWS or fewer, else a BITMAP;");
        Index x = new CountedIndex();
        x.range(0, 0, 100, 4195, 0);
        due.is("come: 4096", x.container(0, 0, 1), 0);
        x.range(0, 1, 100, 4196, 0);
        due.is("come: 4097", x.container(0, 1, 1), 1);
        x.range(0, 1, 100, 100, 1);
        due.is("go: 4096", x.container(0, 1, 1), 0);
        x.range(0, 2, 0, 65535, 0);
        x.range(0, 2, 4097, 65535, 1);
        due.is("go: 4097", x.container(0, 2, 1), 1);
        x.range(0, 3, 0, 4095, 2);
        due.is("the other way: 4096", x.container(0, 3, 1), 0);
        x.range(0, 4, 0, 4096, 2);
        due.is("the other way: 4097", x.container(0, 4, 1), 1);
        x.range(0, 4, 4096, 4096, 2);
        due.is("the other way, back: 4096", x.container(0, 4, 1), 0);
        x.range(0, 4, 0, 8192, 2);
        due.is("the other way, none stays: 4097", x.container(0, 4, 2) * 10 + x.container(0, 4, 1), 40971);
    }

    private static void arrayUpTo4096BySteps() {
        due.says("Terms", "One that is made or changed by a call is an ARRAY with 4096 LOWS or fewer, else a BITMAP;");
        Index x = new CountedIndex();
        due.is("16 apart", x.steps(0, 0, 15, 16), 4096);
        due.is("steps: 4096", x.container(0, 0, 1), 0);
        due.is("one more", x.steps(0, 0, 65534, 2), 4097);
        due.is("steps: 4097", x.container(0, 0, 1), 1);
        due.is("the last 4096", x.steps(1, 0, 61440, 1), 4096);
        due.is("steps of 1: 4096", x.container(1, 0, 1), 0);
        due.is("the last 4097", x.steps(2, 0, 61439, 1), 4097);
        due.is("steps of 1: 4097", x.container(2, 0, 1), 1);
    }

    /** Sets 0 and 1 share key 0: 8193 LOWS and 8193, of which some are in both, and neither is the answer. */
    private static void twoThatMeet(Index x, int inBoth) {
        x.clear(0);
        x.clear(1);
        x.range(0, 0, 0, 8192, 0);
        x.range(1, 0, 8193 - inBoth, 8192 - inBoth + 8193, 0);
    }

    private static void arrayUpTo4096ByJoin() {
        due.says("Terms", "One that is made or changed by a call is an ARRAY with 4096 LOWS or fewer, else a BITMAP;");
        Index x = new CountedIndex();
        twoThatMeet(x, 4096);
        due.is("AND", x.join(2, 0, 0, 1), 4096);
        due.is("AND: 4096", x.container(2, 0, 1), 0);
        due.is("BUT", x.join(2, 3, 0, 1), 4097);
        due.is("BUT: 4097", x.container(2, 0, 1), 1);
        twoThatMeet(x, 4097);
        due.is("AND", x.join(2, 0, 0, 1), 4097);
        due.is("AND: 4097", x.container(2, 0, 1), 1);
        due.is("BUT", x.join(2, 3, 0, 1), 4096);
        due.is("BUT: 4096", x.container(2, 0, 1), 0);
        x.clear(0);
        x.clear(1);
        x.range(0, 0, 0, 2047, 0);
        x.range(1, 0, 2048, 4095, 0);
        due.is("OR", x.join(2, 1, 0, 1), 4096);
        due.is("OR: 4096", x.container(2, 0, 1), 0);
        due.is("XOR", x.join(2, 2, 0, 1), 4096);
        due.is("XOR: 4096", x.container(2, 0, 1), 0);
        x.add(1, 4096);
        due.is("OR", x.join(2, 1, 0, 1), 4097);
        due.is("OR: 4097", x.container(2, 0, 1), 1);
        due.is("XOR", x.join(2, 2, 0, 1), 4097);
        due.is("XOR: 4097", x.container(2, 0, 1), 1);
    }

    private static void arrayUpTo4096ByFormula() {
        due.says("Terms", "One that is made or changed by a call is an ARRAY with 4096 LOWS or fewer, else a BITMAP;");
        Index x = new CountedIndex();
        twoThatMeet(x, 4096);
        x.formula(2, Made.signs(0, 1, 16), 3);
        due.is("AND: 4096", x.container(2, 0, 1), 0);
        x.formula(2, Made.signs(0, 1, 19), 3);
        due.is("BUT: 4097", x.container(2, 0, 1), 1);
        x.range(3, 0, 4096, 65535, 0);
        due.is("ALL BUT", x.formula(4, Made.signs(20, 3, 19), 3), 4096);
        due.is("ALL BUT: 4096", x.container(4, 0, 1), 0);
        x.remove(3, 4096);
        due.is("ALL XOR", x.formula(4, Made.signs(3, 20, 18), 3), 4097);
        due.is("ALL XOR: 4097", x.container(4, 0, 1), 1);
        x.formula(4, Made.signs(20), 1);
        due.is("ALL: 65536", x.container(4, 0, 1), 1);
    }

    // ---- Terms, 1 KINDS by shrink

    private static void shrinkOfAnArray() {
        due.says("Terms", "but shrink() makes RUNS of it, if 2 + 4 times the number of its RUNS is below its BYTES "
            + "otherwise (an ARRAY 2 for each LOW, a BITMAP 8192), else ARRAY or BITMAP as told.");
        Index x = new CountedIndex();
        x.range(0, 0, 9, 9, 0);
        due.is("one LOW: 6 and 2", x.shrink(0) * 10 + x.container(0, 0, 1), 0);
        x.range(0, 0, 10, 10, 0);
        due.is("two LOWS: 6 and 4", x.shrink(0) * 10 + x.container(0, 0, 1), 0);
        for (int rows : new int[] {1, 2, 3, 100, 1000, 2046, 2047}) {
            Made.rows(x, 1, 0, rows, 2 * rows + 1);
            due.is(rows + " rows, " + (2 * rows + 1) + " LOWS: as many BYTES", x.shrink(1), 0);
            due.is("an ARRAY", x.container(1, 0, 1), 0);
            Made.rows(x, 1, 0, rows, 2 * rows + 2);
            due.is(rows + " rows, " + (2 * rows + 2) + " LOWS: fewer BYTES", x.shrink(1), 1);
            due.is("RUNS", x.container(1, 0, 1), 2);
        }
        Made.rows(x, 2, 0, 2048, 4096);
        due.is("2048 rows, 4096 LOWS: 8194 and 8192", x.shrink(2) * 10 + x.container(2, 0, 1), 0);
    }

    private static void shrinkOfABitmap() {
        due.says("Terms", "but shrink() makes RUNS of it, if 2 + 4 times the number of its RUNS is below its BYTES "
            + "otherwise (an ARRAY 2 for each LOW, a BITMAP 8192), else ARRAY or BITMAP as told.");
        Index x = new CountedIndex();
        Made.rows(x, 0, 0, 2047, 4097);
        due.is("2047 rows, 4097 LOWS: 8190 and 8192", x.shrink(0) * 10 + x.container(0, 0, 1), 12);
        Made.rows(x, 0, 0, 2048, 4097);
        due.is("2048 rows, 4097 LOWS: 8194 and 8192", x.shrink(0) * 10 + x.container(0, 0, 1), 1);
        x.steps(1, 0, 0, 32);
        x.range(1, 0, 0, 65535, 2);
        due.is("gaps of one", x.container(1, 0, 3), 2048);
        due.is("2048 rows, 63488 LOWS: 8194", x.shrink(1) * 10 + x.container(1, 0, 1), 1);
        x.add(1, 32);
        due.is("one gap less", x.container(1, 0, 3), 2047);
        due.is("2047 rows, 63489 LOWS: 8190", x.shrink(1) * 10 + x.container(1, 0, 1), 12);
        x.range(2, 0, 0, 65535, 0);
        due.is("one row, 65536 LOWS: 6", x.shrink(2) * 10 + x.container(2, 0, 1), 12);
        x.steps(3, 0, 0, 2);
        due.is("32768 rows", x.shrink(3) * 10 + x.container(3, 0, 1), 1);
    }

    private static void shrinkOfRunsThatAreTooLong() {
        due.says("Terms", "but shrink() makes RUNS of it, if 2 + 4 times the number of its RUNS is below its BYTES "
            + "otherwise (an ARRAY 2 for each LOW, a BITMAP 8192), else ARRAY or BITMAP as told.");
        Index x = new CountedIndex();
        Made.bytes(x, 0x3B, 0x30, 0, 0, 1, 0, 0, 2, 0, 1, 0, 7, 0, 2, 0);
        x.read(0);
        due.is("RUNS of three LOWS, as read", x.container(0, 0, 1), 2);
        due.is("6 and 6", x.shrink(0), 0);
        due.is("an ARRAY", x.container(0, 0, 1), 0);
        Made.singleRuns(x, 1, 4095, true);
        due.is("RUNS of 8190 LOWS, as read", x.container(1, 1, 2) * 10 + x.container(1, 1, 1), 81902);
        due.is("16382 and 8192; the other has 6 and 10", x.shrink(1), 1);
        due.is("a BITMAP", x.container(1, 1, 1), 1);
        due.is("the other is RUNS", x.container(1, 0, 1), 2);
        Index y = new CountedIndex();
        Made.singleRuns(y, 1, 4095, false);
        due.is("RUNS of 4095 LOWS, as read", y.container(1, 1, 2) * 10 + y.container(1, 1, 1), 40952);
        due.is("16382 and 8190", y.shrink(1), 1);
        due.is("an ARRAY", y.container(1, 1, 1), 0);
    }

    /** Set 0: RUNS of the LOWS 100 to 9999 of key 4, beside RUNS of key 9. */
    private static Index shrunken() {
        Index x = new CountedIndex();
        x.range(0, 4, 100, 9999, 0);
        x.range(0, 9, 0, 99, 0);
        x.shrink(0);
        return x;
    }

    private static void lowsAsTheyWereLeaveTheKind() {
        due.says("Terms", "A call that leaves all its LOWS as they were leaves its KIND.");
        Index x = shrunken();
        int key = 4 << 16;
        due.is("add of the first", x.add(0, key + 100) * 10 + x.container(0, 0, 1), 2);
        due.is("add of the last", x.add(0, key + 9999) * 10 + x.container(0, 0, 1), 2);
        due.is("remove of one ahead", x.remove(0, key + 99) * 10 + x.container(0, 0, 1), 2);
        due.is("remove of one behind", x.remove(0, key + 10000) * 10 + x.container(0, 0, 1), 2);
        x.range(0, 4, 100, 9999, 0);
        due.is("range of those that are there", x.container(0, 0, 1), 2);
        x.range(0, 4, 0, 99, 1);
        x.range(0, 4, 10000, 65535, 1);
        due.is("range of those that are not", x.container(0, 0, 1), 2);
        x.range(1, 4, 100, 9999, 0);
        x.join(0, 0, 0, 1);
        due.is("AND with the same", x.container(0, 0, 1), 2);
        due.is("a change beside it", x.add(0, 4), 1);
        due.is("leaves it", x.container(0, 1, 1), 2);
        due.is("one that changes", x.add(0, key + 99), 1);
        due.is("does not", x.container(0, 1, 1), 1);
        x.shrink(0);
        x.range(0, 4, 500, 500, 2);
        due.is("nor does the other way", x.container(0, 1, 1), 1);
        x.shrink(0);
        x.steps(0, 4, 99, 65535);
        due.is("steps of one that is there", x.container(0, 1, 1), 2);
        x.steps(0, 4, 500, 65535);
        due.is("steps of one that is not", x.container(0, 1, 1), 1);
    }

    private static void refusedCallsLeaveTheKind() {
        due.says("Terms", "A call that leaves all its LOWS as they were leaves its KIND.");
        Index x = shrunken();
        Made.workDownTo(x, 0);
        Watch watch = new Watch(due, x);
        watch.refused("range of BAD", x.range(0, 4, 9, 8, 2), BAD);
        watch.refused("steps of BAD", x.steps(0, 4, 0, 0), BAD);
        watch.refused("shrink, SPENT", x.shrink(0), SPENT);
        watch.refused("join, SPENT", x.join(0, 3, 0, 0), SPENT);
        due.is("both are RUNS", x.count(0, 4), 2);
    }

    // ---- Promises 1 to 3

    private static void promise1() {
        due.says("Promise 1", "SETS are empty, no BYTES.");
        Index x = new CountedIndex();
        Index other = new CountedIndex();
        other.range(0, 0, 0, 65535, 0);
        other.write(0);
        other.read(1);
        for (int set = 0; set < 8; set++) {
            due.is("count(" + set + ", 0)", x.count(set, 0), 0);
            due.is("count(" + set + ", 1)", x.count(set, 1), 0);
            due.is("container(" + set + ", 0, 0)", x.container(set, 0, 0), BAD);
        }
        due.is("size()", x.size(), 0);
        due.is("at(0)", x.at(0), BAD);
        due.is("alter(0, 0)", x.alter(0, 0), BAD);
        due.is("cut(0)", x.cut(0), 0);
        due.is("work()", x.work(), 300);
        due.is("fault()", x.fault(), 0);
        due.is("read(0)", x.read(0), -100);
        due.is("all empty: compare(0, 7)", x.compare(0, 7), 2);
    }

    private static void promise2() {
        due.says("Promise 2", "A NUMBER comes into a SET: 1; 0: it was there.");
        Index x = new CountedIndex();
        for (int v : new int[] {0, 65535, 65536, MAX, MIN, -1}) {
            due.is("add(3, " + v + ")", x.add(3, v), 1);
            due.is("has(3, " + v + ")", x.has(3, v), 1);
            due.is("add(3, " + v + ") again", x.add(3, v), 0);
            due.is("no other set has it", x.has(2, v) + x.has(4, v), 0);
        }
        due.is("six came", x.count(3, 0), 6);
        due.says("Promise 2", "BAD; FULL.");
        Made.six(x, 0);
        Watch watch = new Watch(due, x);
        watch.refused("add(-1, 0)", x.add(-1, 0), BAD);
        watch.refused("add(8, 0)", x.add(8, 0), BAD);
        watch.refused("add of a seventh KEY above", x.add(0, 6 << 16), FULL);
        watch.refused("add of the greatest NUMBER", x.add(0, -1), FULL);
        watch.refused("one that is there is 0, not FULL", x.add(0, 5 << 16), 0);
        due.is("one with a KEY that is there", x.add(0, (5 << 16) + 65535), 1);
        x.remove(0, 0);
        due.is("with five there is room below", x.add(0, 1), 1);
        due.is("the least KEY is the first", x.container(0, 0, 0), 0);
    }

    private static void promise3() {
        due.says("Promise 3", "A NUMBER goes: 1; 0: it was not there.");
        Index x = new CountedIndex();
        due.is("remove from an empty SET", x.remove(0, 0), 0);
        for (int v : new int[] {0, 65535, 65536, MAX, MIN, -1}) {
            x.add(3, v);
            x.add(4, v);
            due.is("remove(3, " + v + ")", x.remove(3, v), 1);
            due.is("has(3, " + v + ")", x.has(3, v), 0);
            due.is("remove(3, " + v + ") again", x.remove(3, v), 0);
            due.is("another set has it still", x.has(4, v), 1);
        }
        due.is("all went", x.count(3, 0), 0);
        Made.six(x, 0);
        due.is("one of a seventh KEY was not there", x.remove(0, 6 << 16), 0);
        due.is("one beside it was not there", x.remove(0, 1), 0);
        due.is("the six stay", x.count(0, 0), 6);
        due.says("Promise 3", "BAD.");
        Watch watch = new Watch(due, x);
        watch.refused("remove(-1, 0)", x.remove(-1, 0), BAD);
        watch.refused("remove(8, 0)", x.remove(8, 0), BAD);
    }

    // ---- Promises 4 to 6

    private static void promise4() {
        due.says("Promise 4", "NUMBERS with a KEY and LOWS from one to another (both counted): how = 0 all come, "
            + "1 all go, 2 those that are not there come, the others go: how many NUMBERS the SET has then.");
        Index x = new CountedIndex();
        due.is("the least alone", x.range(0, 0, 0, 0, 0), 1);
        due.is("has it", x.has(0, 0), 1);
        due.is("the greatest alone", x.range(0, 65535, 65535, 65535, 0), 2);
        due.is("has it", x.has(0, -1), 1);
        due.is("all of a KEY", x.range(0, 7, 0, 65535, 0), 65538);
        due.is("both counted, go", x.range(0, 7, 1, 65534, 1), 4);
        due.is("the first stays", x.has(0, 7 << 16), 1);
        due.is("the last stays", x.has(0, (7 << 16) + 65535), 1);
        due.is("the other way", x.range(0, 7, 0, 65535, 2), 65536);
        due.is("the first went", x.has(0, 7 << 16), 0);
        due.is("the second came", x.has(0, (7 << 16) + 1), 1);
        due.is("the KEYS beside have none", x.next(0, 6 << 16), (7L << 16) + 1);
        due.is("nor behind", x.next(0, (7 << 16) + 65535), 4294967295L);
        due.is("go twice", x.range(0, 7, 0, 65535, 1), 2);
        due.is("go where none is", x.range(0, 7, 0, 65535, 1), 2);
        due.is("go from an empty SET", x.range(1, 7, 0, 65535, 1), 0);
        due.is("the other way in an empty SET", x.range(1, 7, 63, 64, 2), 2);
        due.is("over both sides of what is there", x.range(1, 7, 62, 65, 2), 2);
        due.is("these two", x.next(1, 0) * 1000 + x.select(1, 1) % 65536, ((7L << 16) + 62) * 1000 + 65);
        promise4Bad();
        promise4Full();
    }

    private static void promise4Bad() {
        due.says("Promise 4", "BAD: also from above to;");
        Index x = filled();
        Watch watch = new Watch(due, x);
        for (int how = 0; how < 3; how++) {
            watch.refused("from one above to, " + how, x.range(0, 0, 6, 5, how), BAD);
            watch.refused("from far above to, " + how, x.range(0, 0, 65535, 0, how), BAD);
            watch.refused("a KEY that is none, " + how, x.range(0, 65536, 0, 1, how), BAD);
        }
        for (int how : new int[] {MIN, -1, 3, 4, 256, MAX}) {
            watch.refused("how " + how, x.range(0, 0, 0, 9, how), BAD);
        }
        watch.refused("to a LOW that is none", x.range(0, 0, 9, 65536, 1), BAD);
        watch.refused("from a LOW that is none", x.range(0, 0, -1, 9, 1), BAD);
        due.is("from the same as to is none of these", x.range(0, 0, 5, 5, 1), 9);
    }

    private static void promise4Full() {
        due.says("Promise 4", "FULL.");
        Index x = new CountedIndex();
        Made.six(x, 0);
        Watch watch = new Watch(due, x);
        watch.refused("a seventh comes", x.range(0, 6, 0, 0, 0), FULL);
        watch.refused("a seventh the other way", x.range(0, 65535, 0, 65535, 2), FULL);
        watch.refused("a seventh goes: none was there", x.range(0, 6, 0, 65535, 1), 6);
        watch.refused("BAD is ahead of it", x.range(0, 6, 1, 0, 0), BAD);
        due.is("one of the six", x.range(0, 5, 0, 65535, 2), 5 + 65535);
    }

    private static void promise5() {
        due.says("Promise 5",
            "NUMBERS with a KEY and LOWS from, from + step, .. up to 65535 come: how many the SET has then.");
        Index x = new CountedIndex();
        due.is("from the last", x.steps(0, 5, 65535, 1), 1);
        due.is("from the last by the greatest", x.steps(0, 5, 65535, 65535), 1);
        due.is("from the last but one", x.steps(0, 5, 65534, 1), 2);
        due.is("from 0 by the greatest: 0 and 65535", x.steps(1, 5, 0, 65535), 2);
        due.is("65535 too", x.has(1, (5 << 16) + 65535), 1);
        due.is("from 1 by the greatest: 65536 is beyond", x.steps(2, 5, 1, 65535), 1);
        due.is("it is not LOW 0 of this KEY", x.has(2, 5 << 16), 0);
        due.is("nor of the next", x.has(2, 6 << 16), 0);
        due.is("each", x.steps(3, 65535, 0, 1), 65536);
        due.is("the greatest NUMBER", x.has(3, -1), 1);
        due.is("every second", x.steps(4, 0, 1, 2), 32768);
        due.is("up to 65535", x.has(4, 65535), 1);
        due.is("with another KEY", x.steps(4, 1, 0, 32768), 32770);
        due.is("those that are there do not count twice", x.steps(4, 0, 0, 1), 65538);
        due.is("nothing new", x.steps(4, 0, 7, 7), 65538);
        due.says("Promise 5", "BAD: step is not 1 .. 65535; FULL.");
        Index y = filled();
        Watch watch = new Watch(due, y);
        for (int step : new int[] {MIN, -65535, -1, 0, 65536, 65537, MAX}) {
            watch.refused("step " + step, y.steps(0, 0, 0, step), BAD);
        }
        Index z = new CountedIndex();
        Made.six(z, 0);
        Watch full = new Watch(due, z);
        full.refused("a seventh", z.steps(0, 6, 0, 1), FULL);
        full.refused("a seventh of one NUMBER", z.steps(0, 6, 65535, 65535), FULL);
        full.refused("BAD is ahead of FULL", z.steps(0, 6, 0, 0), BAD);
        due.is("one of the six", z.steps(0, 5, 65535, 1), 7);
    }

    private static void promise6() {
        due.says("Promise 6", "A SET is empty: how many NUMBERS it had.");
        Index x = new CountedIndex();
        due.is("an empty SET", x.clear(0), 0);
        for (int key = 0; key < 6; key++) {
            x.range(0, 10000 * key, 0, 65535, 0);
        }
        x.add(1, 5);
        due.is("a SET that is full", x.clear(0), 393216);
        isGone("clear", x, 0);
        due.is("again", x.clear(0), 0);
        due.is("the others stay", x.count(1, 0), 1);
        x.add(0, 5);
        due.is("one comes", x.count(0, 0) * 10 + x.count(0, 1), 11);
        due.is("none behind it", x.select(0, 1), NONE);
        due.is("none above it", x.next(0, 6), NONE);
        x.clear(0);
        Made.six(x, 0);
        due.is("there is room for six again", x.count(0, 0), 6);
        due.says("Promise 6", "BAD.");
        Watch watch = new Watch(due, x);
        watch.refused("clear(-1)", x.clear(-1), BAD);
        watch.refused("clear(8)", x.clear(8), BAD);
    }

    // ---- Promises 7 and 8

    private static void promise7() {
        joinOfEmptySets();
        joinIntoOneOfThem();
        joinAtTheEnds();
        joinOfFullSets();
        joinKinds();
        joinRefused();
    }

    private static void joinOfEmptySets() {
        due.says("Promise 7", "SET to becomes that of a and b: what = 0 those in both, 1 in one of them at least, "
            + "2 in just one, 3 in a and not in b: how many NUMBERS it has then.");
        int[][] answers = {{0, 0, 0}, {0, 10, 10}, {0, 10, 10}, {0, 0, 10}};
        for (int what = 0; what < 4; what++) {
            Index x = new CountedIndex();
            x.range(1, 3, 0, 9, 0);
            x.range(2, 1, 0, 9, 0);
            x.range(3, 1, 0, 9, 0);
            x.range(4, 1, 0, 9, 0);
            due.is(what + " of two empty ones", x.join(2, what, 0, 7), answers[what][0]);
            due.is(what + " of none and ten", x.join(3, what, 0, 1), answers[what][1]);
            due.is(what + " of ten and none", x.join(4, what, 1, 0), answers[what][2]);
            for (int set = 2; set <= 4; set++) {
                due.is("what it held is gone", x.has(set, 1 << 16), 0);
                due.is("what it has", x.count(set, 0), answers[what][set - 2]);
            }
        }
    }

    private static void joinIntoOneOfThem() {
        due.says("Promise 7", "SET to becomes that of a and b: what = 0 those in both, 1 in one of them at least, "
            + "2 in just one, 3 in a and not in b: how many NUMBERS it has then.");
        int[] answers = {5, 15, 10, 5};
        int[] withItself = {10, 10, 0, 0};
        for (int what = 0; what < 4; what++) {
            for (int to = 0; to < 3; to++) {
                Index x = new CountedIndex();
                x.range(0, 3, 0, 9, 0);
                x.range(1, 3, 5, 14, 0);
                due.is(what + " into " + to, x.join(to, what, 0, 1), answers[what]);
                due.is("the first of them", x.next(to, 0), (3L << 16) + (what == 0 ? 5 : 0));
                due.is("a stays", x.count(0, 0), to == 0 ? answers[what] : 10);
                due.is("b stays", x.count(1, 0), to == 1 ? answers[what] : 10);
            }
            Index x = new CountedIndex();
            x.range(0, 3, 0, 9, 0);
            due.is(what + " of one with itself into itself", x.join(0, what, 0, 0), withItself[what]);
            due.is("so many", x.count(0, 0), withItself[what]);
        }
    }

    private static void joinAtTheEnds() {
        due.says("Promise 7", "SET to becomes that of a and b: what = 0 those in both, 1 in one of them at least, "
            + "2 in just one, 3 in a and not in b: how many NUMBERS it has then.");
        Index x = new CountedIndex();
        x.add(0, 0);
        x.add(0, MAX);
        x.add(0, -1);
        x.add(1, 65535);
        x.add(1, MIN);
        x.add(1, -1);
        due.is("in both", x.join(2, 0, 0, 1), 1);
        due.is("the greatest", x.next(2, 0), 4294967295L);
        due.is("in one at least", x.join(3, 1, 0, 1), 5);
        due.is("KEYS", x.count(3, 1), 4);
        due.is("the middle one", x.select(3, 2), 2147483647L);
        due.is("the next one", x.select(3, 3), 2147483648L);
        due.is("in just one", x.join(4, 2, 0, 1), 4);
        due.is("not the greatest", x.has(4, -1), 0);
        due.is("in a and not in b", x.join(5, 3, 0, 1), 2);
        due.is("in b and not in a", x.join(6, 3, 1, 0), 2);
        due.is("these", x.select(6, 0) * 10 + x.select(6, 1), 65535L * 10 + 2147483648L);
    }

    private static void joinOfFullSets() {
        due.says("Promise 7", "BAD; SPENT; FULL.");
        Index x = new CountedIndex();
        Made.six(x, 0);
        for (int key = 1; key < 7; key++) {
            x.add(1, key << 16);
        }
        x.add(2, 77);
        due.is("six in both sets but one", x.join(3, 0, 0, 1), 5);
        due.is("in just one: two", x.join(3, 2, 0, 1), 2);
        due.is("six and not those", x.join(3, 3, 0, 1), 1);
        Watch watch = new Watch(due, x);
        watch.refusedFor(1, "seven", x.join(2, 1, 0, 1), FULL);
        watch.refusedFor(1, "seven into a", x.join(0, 1, 0, 1), FULL);
        watch.refusedFor(1, "seven into b", x.join(1, 1, 0, 1), FULL);
        due.is("six with themselves", x.join(2, 1, 0, 0), 6);
        x.clear(1);
        for (int key = 60000; key < 60006; key++) {
            x.add(1, key << 16);
        }
        watch.anew();
        watch.refusedFor(1, "twelve", x.join(2, 1, 0, 1), FULL);
        watch.refusedFor(1, "twelve in just one", x.join(2, 2, 1, 0), FULL);
        due.is("none in both", x.join(3, 0, 0, 1), 0);
        due.is("six but none", x.join(3, 3, 1, 0), 6);
    }

    private static void joinKinds() {
        due.says("Promise 7", "A CONTAINER that is just one of a or b (its KEY, all its LOWS) has that one's KIND "
            + "(of a ahead of b).");
        Index x = new CountedIndex();
        x.range(0, 1, 0, 99, 0);
        x.shrink(0);
        x.range(1, 1, 0, 99, 0);
        x.join(2, 0, 0, 1);
        due.is("both the same: of a, RUNS", x.container(2, 0, 1), 2);
        x.join(2, 1, 1, 0);
        due.is("both the same: of a, ARRAY", x.container(2, 0, 1), 0);
        x.join(0, 1, 1, 0);
        due.is("into b: of a still", x.container(0, 0, 1), 0);
        x.shrink(0);
        x.range(1, 1, 100, 100, 0);
        x.join(2, 0, 1, 0);
        due.is("just b", x.container(2, 0, 1), 2);
        x.join(2, 1, 0, 1);
        due.is("just b, one LOW more", x.container(2, 0, 1), 0);
        x.range(1, 1, 0, 0, 1);
        x.join(2, 1, 0, 1);
        due.is("neither: 101 LOWS made anew", x.container(2, 0, 2) * 10 + x.container(2, 0, 1), 1010);
        x.shrink(1);
        x.join(2, 0, 0, 1);
        due.is("neither, of two of RUNS", x.container(2, 0, 2) * 10 + x.container(2, 0, 1), 990);
        x.shrink(2);
        x.join(2, 0, 0, 1);
        due.is("what SET to held has no say", x.container(2, 0, 1), 0);
        x.clear(1);
        x.range(1, 2, 0, 99, 0);
        for (int what = 1; what < 4; what++) {
            x.join(2, what, 0, 1);
            due.is("a KEY that a has alone, " + what, x.container(2, 0, 1), 2);
        }
        for (int what = 1; what < 3; what++) {
            x.join(2, what, 1, 0);
            due.is("a KEY that b has alone, " + what, x.container(2, 0, 1), 2);
            due.is("as many LOWS of another KEY, " + what, x.container(2, 1, 1), 0);
        }
    }

    private static void joinRefused() {
        due.says("Promise 7", "BAD; SPENT; FULL.");
        Index x = filled();
        Watch watch = new Watch(due, x);
        for (int what : new int[] {MIN, -1, 4, 16, 256, MAX}) {
            watch.refused("what " + what, x.join(1, what, 0, 7), BAD);
        }
        Index y = new CountedIndex();
        Made.six(y, 0);
        y.add(1, -1);
        Made.workDownTo(y, 1);
        Watch spent = new Watch(due, y);
        spent.refused("BAD is ahead: no WORK goes", y.join(0, 4, 0, 1), BAD);
        spent.refusedFor(1, "FULL with the last WORK", y.join(0, 1, 0, 1), FULL);
        spent.refused("SPENT is ahead of FULL", y.join(0, 1, 0, 1), SPENT);
        spent.refused("SPENT", y.join(0, 0, 0, 1), SPENT);
        spent.refused("BAD is ahead of SPENT", y.join(8, 0, 0, 1), BAD);
    }

    private static void promise8() {
        due.says("Promise 8", "Each CONTAINER as told (1): how many are RUNS then.");
        Index x = new CountedIndex();
        due.is("an empty SET", x.shrink(0), 0);
        for (int key = 0; key < 6; key++) {
            x.range(0, key, 0, 3, 0);
        }
        due.is("all six", x.shrink(0), 6);
        due.is("all six again", x.shrink(0), 6);
        due.is("the NUMBERS stay", x.count(0, 0), 24);
        for (int key = 0; key < 6; key++) {
            x.range(1, key, 0, 2, 0);
        }
        due.is("none of six", x.shrink(1), 0);
        x.range(1, 0, 3, 3, 0);
        x.range(1, 5, 3, 3, 0);
        due.is("the first and the last", x.shrink(1), 2);
        due.is("the first", x.container(1, 0, 1), 2);
        due.is("the second", x.container(1, 1, 1), 0);
        due.is("the last", x.container(1, 5, 1), 2);
        x.add(1, 9);
        due.is("5 LOWS in two rows, 10 and 10: only the last is left", x.shrink(1), 1);
        due.says("Promise 8", "BAD; SPENT.");
        Watch watch = new Watch(due, x);
        watch.refused("shrink(-1)", x.shrink(-1), BAD);
        watch.refused("shrink(8)", x.shrink(8), BAD);
        x.range(2, 0, 0, 99, 0);
        Made.workDownTo(x, 1);
        due.is("the last WORK", x.shrink(2), 1);
        x.range(2, 0, 100, 100, 0);
        watch.anew();
        watch.refused("SPENT", x.shrink(2), SPENT);
        watch.refused("SPENT of an empty SET", x.shrink(7), SPENT);
        watch.refused("BAD is ahead of SPENT", x.shrink(8), BAD);
    }
}

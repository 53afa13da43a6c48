/** The boundary cases, sentence by sentence, of Terms part 4 (FORMULAS, WORK, answers) and of promises 9 and 24. */
public final class EdgesOfFormulasTest {
    private static final int NONE = -1, BAD = -2, FULL = -3, LONG = -4, SPENT = -5;
    private static final int MIN = Integer.MIN_VALUE, MAX = Integer.MAX_VALUE;
    private static final int AND = 16, OR = 17, XOR = 18, BUT = 19, ALL = 20, IDLE = 255;
    private static final Due due = new Due("EdgesOfFormulasTest");

    public static void main(String[] args) {
        oneToEightSigns();
        theLowestByteFirst();
        aPileOfUpToEight();
        setsSo();
        theTwoUpperOnes();
        all();
        nothing();
        workFromTheFirst();
        workOfEachCall();
        workOfFullAndFaults();
        theFirstThatFits();
        answersByNumber();
        refusedCallsChangeNothing();
        countsAsTheyAre();
        promise9();
        promise24();
        due.end();
    }

    /** Set s has the NUMBERS 0 to 9 + 10 s, but for sets 5 and 6, which are empty. */
    private static Index filled() {
        Index x = new CountedIndex();
        for (int set = 0; set < 8; set++) {
            if (set < 5 || set > 6) {
                x.range(set, 0, 0, 9 + 10 * set, 0);
            }
        }
        return x;
    }

    // ---- Terms, 4 FORMULAS

    private static void oneToEightSigns() {
        due.says("Terms", "FORMULAS: 1 to 8 signs of 8 bits, the lowest byte of a long first, on a pile of up to 8 sets:");
        Index x = filled();
        due.is("one sign", x.formula(6, Made.signs(3), 1), 40);
        due.is("two signs", x.formula(6, Made.signs(3, IDLE), 2), 40);
        due.is("eight signs", x.formula(6, Made.signs(0, 1, 2, 3, OR, OR, OR, IDLE), 8), 40);
        due.is("seven signs", x.formula(6, Made.signs(0, 1, 2, 3, OR, OR, OR), 7), 40);
        Watch watch = new Watch(due, x);
        for (int n : new int[] {MIN, -8, -1, 0, 9, 10, 256, 65537, MAX}) {
            watch.refused("n " + n, x.formula(6, Made.signs(3, IDLE, IDLE, IDLE, IDLE, IDLE, IDLE, IDLE), n), BAD);
        }
    }

    private static void theLowestByteFirst() {
        due.says("Terms", "FORMULAS: 1 to 8 signs of 8 bits, the lowest byte of a long first, on a pile of up to 8 sets:");
        Index x = filled();
        due.is("1 0 BUT", x.formula(6, 0x130001L, 3), 10);
        due.is("0 1 BUT", x.formula(6, 0x130100L, 3), 0);
        due.is("bytes behind n are not looked at", x.formula(6, 0x6363636363636304L, 1), 50);
        due.is("nor those that make the long less than 0", x.formula(6, 0x8063636363636304L, 1), 50);
        due.is("a long of bits alone", x.formula(6, 0xFFFFFFFFFFFFFF03L, 8), 40);
        due.is("the highest byte is a sign with 8", x.formula(6, 0x1302FFFFFFFFFF03L, 8), 10);
        for (int sign : new int[] {0, 5, AND, OR, XOR, BUT, ALL, IDLE}) {
            due.is("nor a right sign " + sign, x.formula(6, Made.signs(4, sign), 1), 50);
            due.is("nor behind a join", x.formula(6, Made.signs(4, 3, BUT, sign), 3), 10);
        }
        Watch watch = new Watch(due, x);
        watch.refused("it is looked at", x.formula(6, 0x80FFFFFFFFFFFF03L, 8), BAD);
        watch.refused("it is looked at too", x.formula(6, 0x7FFFFFFFFFFFFF03L, 8), BAD);
        watch.refused("and puts one on the pile", x.formula(6, 0x00FFFFFFFFFFFF03L, 8), BAD);
        watch.refused("the highest byte first would be right", x.formula(6, 0x0001130000000000L, 8), BAD);
    }

    private static void aPileOfUpToEight() {
        due.says("Terms", "FORMULAS: 1 to 8 signs of 8 bits, the lowest byte of a long first, on a pile of up to 8 sets:");
        Index x = filled();
        due.is("four on the pile", x.formula(6, Made.signs(4, 3, 2, 1, BUT, BUT, BUT), 7), 50 - (40 - (30 - 20)));
        due.is("never more than two", x.formula(6, Made.signs(4, 3, BUT, 2, XOR, 1, OR, IDLE), 8), 40);
        Watch watch = new Watch(due, x);
        watch.refused("eight on the pile, and left there", x.formula(6, Made.signs(0, 1, 2, 3, 4, 5, 6, 7), 8), BAD);
        watch.refused("seven, two become one", x.formula(6, Made.signs(0, 1, 2, 3, 4, 5, 6, OR), 8), BAD);
    }

    private static void setsSo() {
        due.says("Terms", "0 to 7: SET so;");
        Index x = filled();
        x.shrink(7);
        for (int set = 0; set < 8; set++) {
            int numbers = set == 5 || set == 6 ? 0 : 10 + 10 * set;
            due.is("SET " + set, x.formula(6, Made.signs(set), 1), numbers);
            due.is("is the same", x.compare(6, set), 2);
            due.is("of that KIND", x.container(6, 0, 1), set == 7 ? 2 : numbers == 0 ? BAD : 0);
            x.clear(6);
        }
        due.is("SET so, into itself", x.formula(7, Made.signs(7), 1), 80);
        due.is("RUNS still", x.container(7, 0, 1), 2);
        x.add(7, 500);
        x.formula(6, Made.signs(7), 1);
        x.remove(7, 500);
        due.is("a later change of the one leaves the other", x.has(6, 500), 1);
        Watch watch = new Watch(due, x);
        for (int sign : new int[] {8, 9, 15}) {
            watch.refused("sign " + sign, x.formula(6, Made.signs(sign), 1), BAD);
            watch.refused("sign " + sign + " behind a SET", x.formula(6, Made.signs(0, sign), 2), BAD);
        }
    }

    private static void theTwoUpperOnes() {
        due.says("Terms", "16 AND, 17 OR, 18 XOR, 19 BUT (those of the lower one that the upper one has not): "
            + "the two upper ones become one;");
        Index x = new CountedIndex();
        x.range(0, 0, 0, 9, 0);
        x.range(1, 0, 6, 14, 0);
        x.range(2, 0, 0, 99, 0);
        int[] answers = {4, 15, 11, 6};
        for (int sign = AND; sign <= BUT; sign++) {
            due.is("sign " + sign, x.formula(6, Made.signs(0, 1, sign), 3), answers[sign - AND]);
            due.is("above another", x.formula(6, Made.signs(2, 0, 1, sign, AND), 5), answers[sign - AND]);
            due.is("as join()", x.join(5, sign - AND, 0, 1) + 10 * x.compare(5, 6), answers[sign - AND] + 20);
        }
        due.is("BUT: the lower one's", x.formula(6, Made.signs(0, 1, BUT), 3), 6);
        due.is("its first", x.next(6, 0), 0);
        due.is("BUT, turned", x.formula(6, Made.signs(1, 0, BUT), 3), 5);
        due.is("its first", x.next(6, 0), 10);
        due.is("the upper two first: 2 less (0 less 1)", x.formula(6, Made.signs(2, 0, 1, BUT, BUT), 5), 94);
        due.is("(2 less 0) less 1", x.formula(6, Made.signs(2, 0, BUT, 1, BUT), 5), 85);
        due.is("with an empty SET", x.formula(6, Made.signs(7, 0, BUT), 3), 0);
        Watch watch = new Watch(due, x);
        for (int sign : new int[] {15, 21}) {
            watch.refused("sign " + sign, x.formula(6, Made.signs(0, 1, sign), 3), BAD);
        }
    }

    private static void all() {
        due.says("Terms", "20 ALL: each NUMBER from 0 to 65535 (one CONTAINER);");
        Index x = new CountedIndex();
        x.add(0, 65535);
        x.add(0, 65536);
        x.add(0, -1);
        due.is("ALL", x.formula(6, Made.signs(ALL), 1), 65536);
        due.is("the least", x.select(6, 0), 0);
        due.is("the greatest", x.select(6, 65535), 65535);
        due.is("none behind", x.next(6, 65536), NONE);
        due.is("one CONTAINER", x.count(6, 1), 1);
        due.is("its KEY", x.container(6, 0, 0), 0);
        due.is("its KIND", x.container(6, 0, 1), 1);
        due.is("its RUNS", x.container(6, 0, 3), 1);
        due.is("those of a SET that are in it", x.formula(6, Made.signs(0, ALL, AND), 3), 1);
        due.is("those that are not", x.formula(6, Made.signs(0, ALL, BUT), 3), 2);
        due.is("all of it twice", x.formula(6, Made.signs(ALL, ALL, XOR), 3), 0);
        due.is("all of it three times", x.formula(6, Made.signs(ALL, ALL, ALL, OR, AND), 5), 65536);
    }

    private static void nothing() {
        due.says("Terms", "255: nothing.");
        Index x = filled();
        due.is("ahead", x.formula(6, Made.signs(IDLE, 3), 2), 40);
        due.is("behind", x.formula(6, Made.signs(3, IDLE), 2), 40);
        due.is("between", x.formula(6, Made.signs(4, IDLE, 3, IDLE, BUT, IDLE), 6), 10);
        due.is("seven times", x.formula(6, Made.signs(IDLE, IDLE, IDLE, IDLE, IDLE, IDLE, IDLE, 3), 8), 40);
        Watch watch = new Watch(due, x);
        watch.refused("nothing at all", x.formula(6, Made.signs(IDLE), 1), BAD);
        watch.refused("eight times nothing", x.formula(6, -1L, 8), BAD);
        watch.refused("it is no set on the pile", x.formula(6, Made.signs(3, IDLE, OR), 3), BAD);
        watch.refused("254 is none", x.formula(6, Made.signs(3, 254), 2), BAD);
    }

    // ---- Terms, WORK

    private static void workFromTheFirst() {
        due.says("Terms", "WORK: 300 are there from the first; join(), shrink(), read() take 1, formula() takes n, "
            + "also when they answer FULL or find a FAULT.");
        Index x = new CountedIndex();
        due.is("from the first", x.work(), 300);
        for (int k = 0; k < 300; k++) {
            x.join(0, 0, 0, 0);
        }
        due.is("300 times 1", x.work(), 0);
        due.is("the next", x.join(0, 0, 0, 0), SPENT);
        due.is("never below 0", x.work(), 0);
        Index y = new CountedIndex();
        Made.workDownTo(y, 8);
        due.is("just as much as is left", y.formula(0, Made.signs(0, 255, 255, 255, 255, 255, 255, 255), 8), 0);
        due.is("none is left", y.work(), 0);
        Index z = new CountedIndex();
        Made.workDownTo(z, 7);
        due.is("one too few", z.formula(0, Made.signs(0, 255, 255, 255, 255, 255, 255, 255), 8), SPENT);
        due.is("they stay", z.work(), 7);
        due.is("just as much", z.formula(0, Made.signs(0, 255, 255, 255, 255, 255, 255), 7), 0);
    }

    private static void workOfEachCall() {
        due.says("Terms", "WORK: 300 are there from the first; join(), shrink(), read() take 1, formula() takes n, "
            + "also when they answer FULL or find a FAULT.");
        Index x = filled();
        x.write(0);
        x.read(1);
        due.is("read()", x.work(), 299);
        x.join(1, 0, 0, 0);
        due.is("join()", x.work(), 298);
        x.shrink(6);
        due.is("shrink() of an empty SET", x.work(), 297);
        int left = 297;
        for (int n = 1; n <= 8; n++) {
            x.formula(6, Made.signs(3, 255, 255, 255, 255, 255, 255, 255), n);
            left -= n;
            due.is("formula() of " + n, x.work(), left);
        }
        Watch watch = new Watch(due, x);
        watch.refused("has()", x.has(0, 0), 1);
        watch.refused("rank()", x.rank(0, 0), 1);
        watch.refused("select()", x.select(0, 0), 0);
        watch.refused("next()", x.next(0, 0), 0);
        watch.refused("count()", x.count(0, 1), 1);
        watch.refused("container()", x.container(0, 0, 2), 10);
        watch.refused("compare()", x.compare(0, 0), 2);
        watch.refused("write() of the same", x.write(0), 36);
        watch.refused("cut() of none", x.cut(36), 0);
        watch.refused("type() of none", x.type(9, 0), 36);
        x.add(0, 100);
        x.remove(0, 100);
        x.range(0, 0, 9, 9, 0);
        x.steps(0, 0, 0, 1);
        x.clear(0);
        x.alter(0, 0);
        due.is("no other call takes any", x.work(), left);
    }

    private static void workOfFullAndFaults() {
        due.says("Terms", "WORK: 300 are there from the first; join(), shrink(), read() take 1, formula() takes n, "
            + "also when they answer FULL or find a FAULT.");
        Index x = new CountedIndex();
        Made.six(x, 0);
        x.add(1, -1);
        due.is("FULL", x.join(2, 1, 0, 1), FULL);
        due.is("takes 1", x.work(), 299);
        due.is("FULL", x.formula(2, Made.signs(0, 1, OR, 255, 255, 255, 255, 255), 8), FULL);
        due.is("takes 8", x.work(), 291);
        due.is("a FAULT", x.read(2), -100);
        due.is("takes 1", x.work(), 290);
        due.is("BAD", x.join(8, 1, 0, 1) + x.formula(2, 0, 9) + x.read(8) + x.shrink(8), 4 * BAD);
        due.is("takes none", x.work(), 290);
    }

    // ---- Terms, the answers below 0

    private static void theFirstThatFits() {
        due.says("Terms", "Answers below 0, the first that fits: BAD -2 (no such thing, a number that is not as told), "
            + "SPENT -5 (not so much WORK is left), FULL -3 (a SET would have more than 6 CONTAINERS), "
            + "LONG -4 (more than 60000 bytes).");
        Index x = new CountedIndex();
        Made.six(x, 0);
        x.add(1, -1);
        Watch watch = new Watch(due, x);
        watch.refused("BAD ahead of FULL: range()", x.range(0, 9, 1, 0, 0), BAD);
        watch.refused("BAD ahead of FULL: steps()", x.steps(0, 9, 0, 65536), BAD);
        watch.refused("BAD ahead of FULL: join()", x.join(8, 1, 0, 1), BAD);
        watch.refused("BAD ahead of FULL: a sign behind", x.formula(2, Made.signs(0, 1, OR, 99), 4), BAD);
        watch.refused("BAD ahead of FULL: two in the end", x.formula(2, Made.signs(0, 1, OR, 1), 4), BAD);
        Made.workDownTo(x, 2);
        watch.anew();
        watch.refused("BAD ahead of SPENT: n", x.formula(2, 0, 9), BAD);
        watch.refused("BAD ahead of SPENT: two that lack", x.formula(2, Made.signs(0, OR, 0), 3), BAD);
        watch.refused("SPENT ahead of FULL: formula()", x.formula(2, Made.signs(0, 1, OR), 3), SPENT);
        watch.refusedFor(1, "FULL: join()", x.join(2, 1, 0, 1), FULL);
        Made.workDownTo(x, 0);
        watch.anew();
        watch.refused("SPENT ahead of FULL: join()", x.join(2, 1, 0, 1), SPENT);
        watch.refused("SPENT ahead of a FAULT: read()", x.read(2), SPENT);
        watch.refused("BAD ahead of SPENT: join()", x.join(2, 1, 0, 8), BAD);
        watch.refused("BAD ahead of SPENT: shrink()", x.shrink(8), BAD);
        watch.refused("BAD ahead of SPENT: read()", x.read(8), BAD);
        watch.refused("BAD ahead of SPENT: formula()", x.formula(8, 0, 1), BAD);
        watch.refused("FULL needs no WORK: add()", x.add(0, -1), FULL);
        Index y = new CountedIndex();
        Made.longSet(y, 0);
        y.write(0);
        watch = new Watch(due, y);
        watch.refused("BAD ahead of LONG: type()", y.type(0, 9), BAD);
        watch.refused("LONG: type()", y.type(0, 8), LONG);
    }

    private static void answersByNumber() {
        due.says("Terms", "Answers below 0, the first that fits: BAD -2 (no such thing, a number that is not as told), "
            + "SPENT -5 (not so much WORK is left), FULL -3 (a SET would have more than 6 CONTAINERS), "
            + "LONG -4 (more than 60000 bytes).");
        due.is("NONE", RoaringIndex.NONE, -1);
        due.is("BAD", RoaringIndex.BAD, -2);
        due.is("FULL", RoaringIndex.FULL, -3);
        due.is("LONG", RoaringIndex.LONG, -4);
        due.is("SPENT", RoaringIndex.SPENT, -5);
    }

    private static void refusedCallsChangeNothing() {
        due.says("Terms", "They change nothing (but WORK).");
        Index x = new CountedIndex();
        Made.longSet(x, 0);
        x.write(0);
        x.add(0, 1303);
        x.add(1, -1);
        Watch watch = new Watch(due, x);
        watch.refused("LONG of write()", x.write(0), LONG);
        watch.refused("LONG of type()", x.type(-1, 2), LONG);
        watch.refused("FULL of add()", x.add(0, -1), FULL);
        watch.refused("FULL of range()", x.range(0, 9, 0, 65535, 2), FULL);
        watch.refused("FULL of steps()", x.steps(0, 9, 0, 1), FULL);
        watch.refusedFor(1, "FULL of join()", x.join(0, 1, 0, 1), FULL);
        watch.refusedFor(5, "FULL of formula()", x.formula(0, Made.signs(0, 1, OR, 1, AND), 5), FULL);
        watch.refused("BAD of cut()", x.cut(60001), BAD);
        watch.refused("BAD of alter()", x.alter(0, 256), BAD);
        watch.refused("BAD of alter() behind", x.alter(59999, 0), BAD);
        due.is("the bytes can be read as they were", x.read(2), 1303 + 2 * 4095 + 3 * 32768);
    }

    private static void countsAsTheyAre() {
        due.says("Terms", "Counts are told as they are.");
        Index x = new CountedIndex();
        for (int key = 0; key < 6; key++) {
            due.is("range", x.range(0, 13107 * key, 0, 65535, 0), 65536 * (key + 1));
        }
        due.is("count()", x.count(0, 0), 393216);
        due.is("container()", x.container(0, 5, 2), 65536);
        due.is("rank()", x.rank(0, -1), 393216);
        due.is("shrink()", x.shrink(0), 6);
        due.is("join()", x.join(1, 0, 0, 0), 393216);
        due.is("formula()", x.formula(2, Made.signs(0), 1), 393216);
        due.is("write()", x.write(0), 53 + 6 * 6);
        due.is("read()", x.read(3), 393216);
        due.is("clear()", x.clear(0), 393216);
        due.is("cut()", x.cut(0), 89);
    }

    // ---- Promises 9 and 24

    private static void promise9() {
        formulaAsJoinDoesIt();
        formulaBad();
        formulaSpent();
        formulaFull();
    }

    private static void formulaAsJoinDoesIt() {
        due.says("Promise 9", "SET to becomes what a FORMULA has left on the pile, as join() does it: how many NUMBERS.");
        Index x = new CountedIndex();
        x.range(0, 0, 0, 99, 0);
        x.shrink(0);
        x.range(1, 0, 0, 99, 0);
        x.range(2, 0, 0, 199, 0);
        x.range(3, 9, 0, 9, 0);
        due.is("what SET to held is gone", x.formula(3, Made.signs(0), 1), 100);
        due.is("it is", x.count(3, 1), 1);
        x.formula(6, Made.signs(0, 1, AND), 3);
        due.is("both the same: the lower one's KIND", x.container(6, 0, 1), 2);
        x.formula(6, Made.signs(1, 0, AND), 3);
        due.is("both the same, turned", x.container(6, 0, 1), 0);
        x.formula(6, Made.signs(2, 0, AND), 3);
        due.is("just the upper one", x.container(6, 0, 1), 2);
        x.formula(6, Made.signs(2, 0, AND, ALL, AND), 5);
        due.is("kept on the pile", x.container(6, 0, 1), 2);
        x.formula(6, Made.signs(2, 0, BUT, 2, AND), 5);
        due.is("made on the pile", x.container(6, 0, 2) * 10 + x.container(6, 0, 1), 1000);
        x.formula(0, Made.signs(0, 0, XOR, 0, OR), 5);
        due.is("into one that it names twice", x.container(0, 0, 2) * 10 + x.container(0, 0, 1), 1002);
        due.is("an empty one", x.formula(0, Made.signs(0, 0, XOR), 3), 0);
        due.is("is empty", x.count(0, 1), 0);
        due.is("an empty SET so", x.formula(1, Made.signs(7), 1), 0);
        due.is("is empty too", x.count(1, 1), 0);
    }

    private static void formulaBad() {
        due.says("Promise 9", "BAD: n (1 to 8), a sign that is none, two sets that lack, not just one in the end, "
            + "the ninth on the pile;");
        Index x = filled();
        Watch watch = new Watch(due, x);
        watch.refused("n 0", x.formula(7, 0, 0), BAD);
        watch.refused("n 9, nine sets", x.formula(7, 0, 9), BAD);
        watch.refused("n 9, though the first sign again would be right",
            x.formula(7, Made.signs(IDLE, 3, IDLE, IDLE, IDLE, IDLE, IDLE, IDLE), 9), BAD);
        int[] right = {0, 1, 2, 3, 4, 5, 6, 7, AND, OR, XOR, BUT, ALL, IDLE};
        for (int sign = 0; sign < 256; sign++) {
            boolean isRight = java.util.Arrays.binarySearch(right, sign) >= 0;
            if (!isRight) {
                due.is("sign " + sign, x.formula(7, Made.signs(0, sign), 2), BAD);
            }
        }
        Index y = filled();
        watch = new Watch(due, y);
        for (int sign = AND; sign <= BUT; sign++) {
            watch.refused("no set for " + sign, y.formula(7, Made.signs(sign), 1), BAD);
            watch.refused("one set for " + sign, y.formula(7, Made.signs(0, sign), 2), BAD);
            watch.refused("the second comes late for " + sign, y.formula(7, Made.signs(0, sign, 0), 3), BAD);
            watch.refused("one is left for the second " + sign, y.formula(7, Made.signs(0, 1, sign, sign), 4), BAD);
        }
        watch.refused("two in the end", y.formula(7, Made.signs(0, 1), 2), BAD);
        watch.refused("two after a join", y.formula(7, Made.signs(0, 1, OR, 2), 4), BAD);
        watch.refused("none in the end", y.formula(7, Made.signs(IDLE, IDLE), 2), BAD);
        watch.refused("eight in the end", y.formula(7, Made.signs(0, 0, 0, 0, 0, 0, 0, ALL), 8), BAD);
    }

    private static void formulaSpent() {
        due.says("Promise 9", "SPENT;");
        Index x = filled();
        Made.workDownTo(x, 2);
        Watch watch = new Watch(due, x);
        watch.refused("3 of 2", x.formula(6, Made.signs(0, 1, OR), 3), SPENT);
        watch.refused("8 of 2", x.formula(6, Made.signs(0, 255, 255, 255, 255, 255, 255, 255), 8), SPENT);
        due.is("2 of 2", x.formula(6, Made.signs(0, 255), 2), 10);
        watch.anew();
        watch.refused("1 of none", x.formula(6, Made.signs(0), 1), SPENT);
    }

    private static void formulaFull() {
        due.says("Promise 9", "FULL: also of one on the pile.");
        Index x = new CountedIndex();
        Made.six(x, 0);
        x.add(1, 6 << 16);
        x.range(2, 0, 0, 5, 0);
        Watch watch = new Watch(due, x);
        watch.refusedFor(3, "seven in the end", x.formula(2, Made.signs(0, 1, OR), 3), FULL);
        watch.refusedFor(5, "seven on the pile, one in the end", x.formula(2, Made.signs(0, 1, OR, 1, AND), 5), FULL);
        watch.refusedFor(5, "seven on the pile, none in the end", x.formula(2, Made.signs(7, 0, 1, XOR, AND), 5), FULL);
        watch.refusedFor(3, "into one of them", x.formula(0, Made.signs(1, 0, XOR), 3), FULL);
        due.is("the same with six on the pile", x.formula(2, Made.signs(0, 0, OR, 1, AND), 5), 0);
        due.is("six in the end", x.formula(2, Made.signs(0, ALL, OR), 3), 5 + 65536);
        x.remove(0, 0);
        due.is("five and ALL are six", x.formula(2, Made.signs(0, ALL, OR), 3), 5 + 65536);
        x.add(0, 9 << 16);
        watch.anew();
        watch.refusedFor(3, "six and ALL are seven", x.formula(2, Made.signs(ALL, 0, OR), 3), FULL);
    }

    private static void promise24() {
        due.says("Promise 24", "How much WORK is left.");
        Index x = new CountedIndex();
        due.is("all", x.work(), 300);
        due.is("asking takes none", x.work(), 300);
        Made.workDownTo(x, 1);
        due.is("one", x.work(), 1);
        due.is("too much", x.formula(0, Made.signs(0, 255), 2), SPENT);
        due.is("one still", x.work(), 1);
        due.is("the last", x.shrink(0), 0);
        due.is("none", x.work(), 0);
        due.is("too much", x.shrink(0), SPENT);
        due.is("none still", x.work(), 0);
    }
}

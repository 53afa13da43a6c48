import java.util.Random;

/**
 * Runs of 512 calls, told by numbered seeds, held against PlainModel call by call: ordinary
 * arguments, edges and wrong ones, and bytes that were written and then spoiled.
 */
public final class ModelTest {
    private static final int RUNS = 400;
    private static final int[] EDGES = {0, 1, 2, 62, 63, 64, 65, 127, 4095, 4096, 4097, 8191, 32767, 32768, 65534, 65535};
    private static final int[] WILD = {-1, -2, 8, 9, 65536, 131071, Integer.MIN_VALUE, Integer.MAX_VALUE};
    private static final Due due = new Due("ModelTest");
    private static final int[] faultsMet = new int[10];
    private static final int[] answersMet = new int[6];

    private final Random random;
    private final RoaringIndex x = new RoaringIndex();
    private final PlainModel m = new PlainModel();
    private final int run;
    private final int keys;
    private int call;

    private ModelTest(int run) {
        this.run = run;
        this.random = new Random(run);
        this.keys = 2 + random.nextInt(8);
    }

    public static void main(String[] args) {
        for (int run = 0; run < RUNS; run++) {
            new ModelTest(run).go();
        }
        for (int f = 0; f <= 9; f++) {
            due.holds("fault " + f + " was met", faultsMet[f] > 0);
        }
        for (int a = 1; a <= 5; a++) {
            due.holds("answer " + -a + " was met", answersMet[a] > 0);
        }
        due.end();
    }

    private void go() {
        if (run % 5 == 1) {
            useUpWork(random.nextInt(38));
        }
        while (call < 512) {
            switch (random.nextInt(12)) {
                case 0: case 1: case 2: case 3: change(); break;
                case 4: case 5: combine(); break;
                case 6: case 7: case 8: ask(); break;
                case 9: spoil(); break;
                case 10: typeAnew(); break;
                default: bytes(); break;
            }
            if (random.nextInt(20) == 0) {
                told("digest()", x.digest(), m.digest());
            }
        }
        told("digest() in the end", x.digest(), m.digest());
    }

    private void useUpWork(int formulas) {
        long idle = 0xFFFFFFFFFFFFFF00L;
        for (int k = 0; k < formulas; k++) {
            told("formula(0, idle, 8)", x.formula(0, idle, 8), m.formula(0, idle, 8));
        }
    }

    private void told(String what, long got, long want) {
        call++;
        due.is("run " + run + ", call " + call + ", " + what, got, want);
        if (want < 0 && want >= -5) {
            answersMet[(int) -want]++;
        }
    }

    private int wildOr(int v) {
        return random.nextInt(60) == 0 ? WILD[random.nextInt(WILD.length)] : v;
    }

    private int set() {
        return wildOr(random.nextInt(random.nextBoolean() ? 3 : 8));
    }

    private int key() {
        int k = random.nextInt(keys);
        return wildOr(k == 7 ? 65535 : k == 6 ? 32768 : k);
    }

    private int low() {
        switch (random.nextInt(3)) {
            case 0: return EDGES[random.nextInt(EDGES.length)];
            case 1: return random.nextInt(200);
            default: return random.nextInt(65536);
        }
    }

    private int number() {
        return random.nextInt(40) == 0 ? random.nextInt() : key() << 16 | low();
    }

    private void change() {
        int s = set();
        int k = key();
        int v = number();
        int from = wildOr(low());
        int to = wildOr(random.nextInt(4) == 0 ? low() : Math.min(65535, from + random.nextInt(9000)));
        int how = wildOr(random.nextInt(3));
        int step = wildOr(random.nextInt(3) == 0 ? 1 + random.nextInt(65535) : 1 + random.nextInt(40));
        switch (random.nextInt(10)) {
            case 0: case 1: told("add(" + s + ", " + v + ")", x.add(s, v), m.add(s, v)); break;
            case 2: told("remove(" + s + ", " + v + ")", x.remove(s, v), m.remove(s, v)); break;
            case 3: case 4: case 5: case 6:
                told("range(" + s + ", " + k + ", " + from + ", " + to + ", " + how + ")",
                    x.range(s, k, from, to, how), m.range(s, k, from, to, how));
                break;
            case 7: case 8:
                told("steps(" + s + ", " + k + ", " + from + ", " + step + ")",
                    x.steps(s, k, from, step), m.steps(s, k, from, step));
                break;
            default:
                if (random.nextInt(3) == 0) {
                    told("clear(" + s + ")", x.clear(s), m.clear(s));
                }
                break;
        }
    }

    private void combine() {
        int to = set();
        int a = set();
        int b = set();
        int what = wildOr(random.nextInt(4));
        switch (random.nextInt(4)) {
            case 0: case 1:
                told("join(" + to + ", " + what + ", " + a + ", " + b + ")", x.join(to, what, a, b), m.join(to, what, a, b));
                break;
            case 2:
                told("shrink(" + to + ")", x.shrink(to), m.shrink(to));
                break;
            default:
                int n = wildOr(1 + random.nextInt(8));
                long signs = random.nextInt(5) == 0 ? random.nextLong() : signsOf(Math.min(n, 8));
                told("formula(" + to + ", " + signs + ", " + n + ")", x.formula(to, signs, n), m.formula(to, signs, n));
                break;
        }
    }

    /** Signs that mostly make a formula that is right. */
    private long signsOf(int n) {
        long signs = 0;
        int high = 0;
        for (int i = 0; i < n; i++) {
            int left = n - i;
            int sign;
            if (high >= 2 && (high >= left || random.nextBoolean())) {
                sign = 16 + random.nextInt(4);
                high--;
            } else if (high >= 1 && (left <= high || random.nextInt(6) == 0)) {
                sign = 255;
            } else {
                sign = random.nextInt(8) == 0 ? 20 : random.nextInt(8);
                high++;
            }
            signs |= (long) sign << 8 * i;
        }
        return signs;
    }

    private void ask() {
        int s = set();
        int b = set();
        int v = number();
        int i = wildOr(random.nextInt(1 + Math.max(1, m.count(Math.floorMod(s, 8), 0))));
        int what = wildOr(random.nextInt(6));
        int k = wildOr(random.nextInt(7));
        told("has(" + s + ", " + v + ")", x.has(s, v), m.has(s, v));
        told("rank(" + s + ", " + v + ")", x.rank(s, v), m.rank(s, v));
        told("select(" + s + ", " + i + ")", x.select(s, i), m.select(s, i));
        told("next(" + s + ", " + v + ")", x.next(s, v), m.next(s, v));
        told("count(" + s + ", " + what + ")", x.count(s, what), m.count(s, what));
        told("container(" + s + ", " + k + ", " + what + ")", x.container(s, k, what), m.container(s, k, what));
        told("compare(" + s + ", " + b + ")", x.compare(s, b), m.compare(s, b));
    }

    private void read() {
        int s = set();
        told("read(" + s + ")", x.read(s), m.read(s));
        told("fault()", x.fault(), m.fault());
        faultsMet[m.fault()]++;
    }

    /** Writes a set, alters a byte or two, most of them in the head, cuts or adds some, and reads it. */
    private void spoil() {
        int s = set();
        told("write(" + s + ")", x.write(s), m.write(s));
        told("size()", x.size(), m.size());
        int alters = random.nextInt(3);
        for (int k = 0; k < alters; k++) {
            int near = random.nextInt(3) == 0 ? m.size() : Math.min(m.size(), 70);
            int i = wildOr(random.nextInt(near + 1));
            int v = wildOr(random.nextBoolean() ? random.nextInt(256) : Math.floorMod(m.at(i) + random.nextInt(3) - 1, 256));
            told("alter(" + i + ", " + v + ")", x.alter(i, v), m.alter(i, v));
            told("at(" + i + ")", x.at(i), m.at(i));
        }
        if (random.nextInt(5) == 0) {
            int n = wildOr(random.nextInt(m.size() + 2));
            told("cut(" + n + ")", x.cut(n), m.cut(n));
        }
        if (random.nextInt(8) == 0) {
            told("type(1, 1)", x.type(1, 1), m.type(1, 1));
        }
        read();
    }

    /** Types a small file by its parts, right but for a few numbers. */
    private void typeAnew() {
        put(0, -1);
        boolean plain = random.nextInt(4) == 0;
        int n = 1 + random.nextInt(random.nextInt(12) == 0 ? 8 : 4);
        int bits = plain ? 0 : random.nextInt(1 << Math.min(n, 6));
        put(plain ? 12346 : 12347 + (n - 1 << 16), 4);
        if (plain) {
            put(n, 4);
        } else {
            put(random.nextInt(30) == 0 ? bits | 1 << random.nextInt(8) : bits, 1);
        }
        int[] runs = new int[n];
        for (int i = 0; i < n; i++) {
            runs[i] = 1 + random.nextInt(3);
            put(random.nextInt(30) == 0 ? 0 : i + 1, 2);
            int total = (bits >> i & 1) == 1 ? 3 * runs[i] : runs[i];
            put(random.nextInt(30) == 0 ? total : total - 1, 2);
        }
        int place = m.size() + 4 * n;
        for (int i = 0; (plain || n >= 4) && i < n; i++) {
            put(random.nextInt(40) == 0 ? place + 1 : place, 4);
            place += (bits >> i & 1) == 1 ? 2 + 4 * runs[i] : 2 * runs[i];
        }
        for (int i = 0; i < n; i++) {
            boolean ofRuns = (bits >> i & 1) == 1;
            if (ofRuns) {
                put(runs[i], 2);
            }
            for (int r = 0; r < runs[i]; r++) {
                int first = random.nextInt(20) == 0 ? 65533 : (ofRuns ? 4 : 1) * r + random.nextInt(30) / 29;
                put(first, 2);
                if (ofRuns) {
                    put(random.nextInt(30) == 0 ? 3 : 2, 2);
                }
            }
        }
        read();
    }

    /** Below 0 bytes: all are cut. */
    private void put(long w, int bytes) {
        if (bytes < 0) {
            told("cut(0)", x.cut(0), m.cut(0));
        } else {
            told("type(" + w + ", " + bytes + ")", x.type(w, bytes), m.type(w, bytes));
        }
    }

    private void bytes() {
        int s = set();
        int n = wildOr(random.nextInt(9));
        long w = random.nextLong();
        int i = wildOr(random.nextInt(m.size() + 1));
        switch (random.nextInt(6)) {
            case 0: told("write(" + s + ")", x.write(s), m.write(s)); break;
            case 1: read(); break;
            case 2: told("type(" + w + ", " + n + ")", x.type(w, n), m.type(w, n)); break;
            case 3: told("at(" + i + ")", x.at(i), m.at(i)); break;
            case 4: longOnes(); break;
            default:
                told("work()", x.work(), m.work());
                told("size()", x.size(), m.size());
                break;
        }
    }

    /** Makes runs of many singles by bytes typed, which is the way to a set that is too long. */
    private void longOnes() {
        if (run % 10 != 0 || m.work() < 40) {
            return;
        }
        int singles = 7000 + random.nextInt(2000);
        for (int set = 0; set < 3; set++) {
            x.cut(0);
            m.cut(0);
            typeBoth(12347, 4);
            typeBoth(1, 1);
            typeBoth(set, 2);
            typeBoth(singles - 1, 2);
            typeBoth(singles, 2);
            for (int k = 0; k < singles; k++) {
                typeBoth(3 * k, 4);
            }
            told("read", x.read(set), m.read(set));
        }
        told("join", x.join(3, 1, 0, 1), m.join(3, 1, 0, 1));
        told("write of two", x.write(3), m.write(3));
        told("join", x.join(3, 1, 3, 2), m.join(3, 1, 3, 2));
        told("write of three", x.write(3), m.write(3));
        told("read", x.read(4), m.read(4));
    }

    private void typeBoth(long w, int bytes) {
        x.type(w, bytes);
        m.type(w, bytes);
    }
}

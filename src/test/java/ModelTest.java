import java.util.Random;

/**
 * Runs of up to 512 calls, told by numbered seeds, held against PlainModel call by call: ordinary
 * arguments, edges and wrong ones, and bytes that were written and then spoiled.
 */
public final class ModelTest {
    private static final int RUNS = 500;
    /** No step below makes more than a hundred calls, so that a run ends within 512. */
    private static final int LAST_STEP = 410;
    private static final int[] EDGES = {0, 1, 2, 62, 63, 64, 65, 127, 4095, 4096, 4097, 8191, 32767, 32768, 65534, 65535};
    private static final int[] WILD = {-1, -2, 8, 9, 65536, 131071, Integer.MIN_VALUE, Integer.MAX_VALUE};
    private static final Due due = new Due("ModelTest");
    private static final int[] faultsMet = new int[10];
    private static final int[] answersMet = new int[6];

    private final Random random;
    private final Twin x;
    private final PlainModel m;
    private final int run;
    private final int keys;

    private ModelTest(int run) {
        this.run = run;
        this.random = new Random(run);
        this.x = new Twin(due, "run " + run, answersMet);
        this.m = x.model;
        this.keys = 2 + random.nextInt(8);
    }

    public static void main(String[] args) {
        for (int run = 0; run < RUNS; run++) {
            new ModelTest(run).go();
        }
        for (int f = 0; f <= 9; f++) {
            due.holds("fault " + f + " was met", faultsMet[f] > 0);
        }
        for (int a = 1; a <= 5; a++) {
            due.holds("answer " + -a + " was met", answersMet[a] > 0);
        }
        due.end();
    }

    private void go() {
        if (run % 5 == 1) {
            useUpWork(random.nextInt(38));
        }
        if (run % 10 == 2) {
            Made.longSet(x, 0);
        }
        while (x.calls() < LAST_STEP) {
            switch (random.nextInt(12)) {
                case 0: case 1: case 2: case 3: change(); break;
                case 4: case 5: combine(); break;
                case 6: case 7: case 8: ask(); break;
                case 9: spoil(); break;
                case 10: typeAnew(); break;
                default: bytes(); break;
            }
            if (random.nextInt(20) == 0) {
                x.digest();
            }
        }
        x.digest();
    }

    private void useUpWork(int formulas) {
        for (int k = 0; k < formulas; k++) {
            x.formula(0, 0xFFFFFFFFFFFFFF00L, 8);
        }
    }

    private int wildOr(int v) {
        return random.nextInt(60) == 0 ? WILD[random.nextInt(WILD.length)] : v;
    }

    private int set() {
        return wildOr(random.nextInt(random.nextBoolean() ? 3 : 8));
    }

    private int key() {
        int k = random.nextInt(keys);
        return wildOr(k == 7 ? 65535 : k == 6 ? 32768 : k);
    }

    private int low() {
        switch (random.nextInt(3)) {
            case 0: return EDGES[random.nextInt(EDGES.length)];
            case 1: return random.nextInt(200);
            default: return random.nextInt(65536);
        }
    }

    private int number() {
        return random.nextInt(40) == 0 ? random.nextInt() : key() << 16 | low();
    }

    private void change() {
        int s = set();
        int from = wildOr(low());
        switch (random.nextInt(10)) {
            case 0: case 1: x.add(s, number()); break;
            case 2: x.remove(s, number()); break;
            case 3: case 4: case 5: case 6:
                int to = random.nextInt(4) == 0 ? low() : Math.min(65535, from + random.nextInt(9000));
                x.range(s, key(), from, wildOr(to), wildOr(random.nextInt(3)));
                break;
            case 7: case 8:
                int step = 1 + random.nextInt(random.nextInt(3) == 0 ? 65535 : 40);
                x.steps(s, key(), from, wildOr(step));
                break;
            default:
                if (random.nextInt(3) == 0) {
                    x.clear(s);
                }
                break;
        }
    }

    private void combine() {
        switch (random.nextInt(4)) {
            case 0: case 1: x.join(set(), wildOr(random.nextInt(4)), set(), set()); break;
            case 2: x.shrink(set()); break;
            default:
                int n = wildOr(1 + random.nextInt(8));
                x.formula(set(), random.nextInt(5) == 0 ? random.nextLong() : signsOf(Math.min(n, 8)), n);
                break;
        }
    }

    /** Signs that mostly make a formula that is right. */
    private long signsOf(int n) {
        long signs = 0;
        int high = 0;
        for (int i = 0; i < n; i++) {
            int left = n - i;
            int sign;
            if (high >= 2 && (high >= left || random.nextBoolean())) {
                sign = 16 + random.nextInt(4);
                high--;
            } else if (high >= 1 && (left <= high || random.nextInt(6) == 0)) {
                sign = 255;
            } else {
                sign = random.nextInt(8) == 0 ? 20 : random.nextInt(8);
                high++;
            }
            signs |= (long) sign << 8 * i;
        }
        return signs;
    }

    private void ask() {
        int s = set();
        int v = number();
        x.has(s, v);
        x.rank(s, v);
        x.select(s, wildOr(random.nextInt(1 + Math.max(1, m.count(Math.floorMod(s, 8), 0)))));
        x.next(s, v);
        x.count(s, wildOr(random.nextInt(6)));
        x.container(s, wildOr(random.nextInt(7)), wildOr(random.nextInt(5)));
        x.compare(s, set());
    }

    private void read() {
        x.read(set());
        faultsMet[x.fault()]++;
    }

    /** Writes a set, alters a byte or two, most of them in the head, cuts or adds some, and reads it. */
    private void spoil() {
        x.write(set());
        x.size();
        int alters = random.nextInt(3);
        for (int k = 0; k < alters; k++) {
            int near = random.nextInt(3) == 0 ? m.size() : Math.min(m.size(), 70);
            int i = wildOr(random.nextInt(near + 1));
            int v = random.nextBoolean() ? random.nextInt(256) : Math.floorMod(m.at(i) + random.nextInt(3) - 1, 256);
            x.alter(i, wildOr(v));
            x.at(i);
        }
        if (random.nextInt(5) == 0) {
            x.cut(wildOr(random.nextInt(m.size() + 2)));
        }
        if (random.nextInt(8) == 0) {
            x.type(1, 1);
        }
        read();
    }

    /** Types a small file by its parts, right but for a few numbers. */
    private void typeAnew() {
        x.cut(0);
        boolean plain = random.nextInt(4) == 0;
        int n = 1 + random.nextInt(random.nextInt(12) == 0 ? 8 : 4);
        int bits = plain ? 0 : random.nextInt(1 << Math.min(n, 6));
        x.type(plain ? 12346 : 12347 + (n - 1 << 16), 4);
        if (plain) {
            x.type(n, 4);
        } else {
            x.type(random.nextInt(30) == 0 ? bits | 1 << random.nextInt(8) : bits, 1);
        }
        int[] runs = new int[n];
        for (int i = 0; i < n; i++) {
            runs[i] = 1 + random.nextInt(3);
            int total = (bits >> i & 1) == 1 ? 3 * runs[i] : runs[i];
            x.type(random.nextInt(30) == 0 ? 0 : i + 1, 2);
            x.type(random.nextInt(30) == 0 ? total : total - 1, 2);
        }
        int place = m.size() + 4 * n;
        for (int i = 0; (plain || n >= 4) && i < n; i++) {
            x.type(random.nextInt(40) == 0 ? place + 1 : place, 4);
            place += (bits >> i & 1) == 1 ? 2 + 4 * runs[i] : 2 * runs[i];
        }
        for (int i = 0; i < n; i++) {
            typeBody((bits >> i & 1) == 1, runs[i]);
        }
        read();
    }

    private void typeBody(boolean ofRuns, int rows) {
        if (ofRuns) {
            x.type(rows, 2);
        }
        for (int r = 0; r < rows; r++) {
            x.type(random.nextInt(20) == 0 ? 65533 : (ofRuns ? 4 : 1) * r + random.nextInt(30) / 29, 2);
            if (ofRuns) {
                x.type(random.nextInt(30) == 0 ? 3 : 2, 2);
            }
        }
    }

    private void bytes() {
        switch (random.nextInt(5)) {
            case 0: x.write(set()); break;
            case 1: read(); break;
            case 2: x.type(random.nextLong(), wildOr(random.nextInt(9))); break;
            case 3: x.at(wildOr(random.nextInt(m.size() + 1))); break;
            default:
                x.work();
                x.size();
                break;
        }
    }
}

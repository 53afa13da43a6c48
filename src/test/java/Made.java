/** Ways to bring an index where a test needs it, each by few calls. */
final class Made {
    private static final int AND = 16, OR = 17;

    private Made() {
    }

    /** The signs of a formula, the first in the lowest byte. */
    static long signs(int... bytes) {
        long w = 0;
        for (int k = 0; k < bytes.length; k++) {
            w |= (long) bytes[k] << 8 * k;
        }
        return w;
    }

    /** One number, LOW 0, of each key 0 to 5. */
    static void six(Index x, int set) {
        for (int key = 0; key < 6; key++) {
            x.add(set, key << 16);
        }
    }

    /** Takes WORK by formulas that leave set 7 as it is, until so much is left. */
    static void workDownTo(Index x, int left) {
        while (x.work() > left) {
            int n = Math.min(8, x.work() - left);
            x.formula(7, signs(7, 255, 255, 255, 255, 255, 255, 255), n);
        }
    }

    /** The bytes become these, typed eight by eight. */
    static void bytes(Index x, int... bytes) {
        x.cut(0);
        for (int i = 0; i < bytes.length; i += 8) {
            int m = Math.min(8, bytes.length - i);
            long w = 0;
            for (int k = 0; k < m; k++) {
                w |= (long) bytes[i + k] << 8 * k;
            }
            x.type(w, m);
        }
    }

    /** The LOWS of a key become so many rows, so many LOWS in all: two each, the first has the rest (up to 13 more). */
    static void rows(Index x, int set, int key, int rows, int lows) {
        x.range(set, key, 0, 65535, 1);
        x.steps(set, key, 0, 16);
        x.steps(set, key, 1, 16);
        x.range(set, key, 16 * (rows - 1) + 2, 65535, 1);
        x.range(set, key, 0, lows - 2 * rows + 1, 0);
    }

    /**
     * Makes RUNS that shrink() would not: a set with key 0, an ARRAY of some LOWS from 0 on, and key 1,
     * so many RUNS (up to 8191) of one LOW each, LOW 8 i, or of two. They are THE BYTES then too.
     *
     * Only read() makes such RUNS, and typing them would take more calls than an index has. So the
     * bytes come from BITMAPS, whose bits hold a number that counts up by one in every 32 bits. The
     * ARRAY is there because the head of BITMAPS is longer: it fills what is over.
     * Uses sets 5 and 6 as well; takes some 150 calls and 40 of WORK.
     */
    static void singleRuns(Index x, int set, int runs, boolean ofTwo) {
        int bitmaps = runs / 2048 + 1;
        x.clear(set);
        countingBits(x, set);
        if (ofTwo) {
            x.steps(set, 0, 24, 32);
        }
        x.write(set);
        for (int k = 1; k < bitmaps; k++) {
            x.alter(8, k);
            x.read(5);
            for (int bit = 0; bit < 2; bit++) {
                if ((k >> bit & 1) == 1) {
                    x.steps(5, k, 8 + 3 + 11 + bit, 32);
                }
            }
            x.join(set, 1, set, 5);
        }
        x.write(set);
        alterToRuns(x, 4 * bitmaps - 3, 1, runs, ofTwo ? 2 * runs : runs);
        x.read(set);
        x.clear(5);
        x.clear(6);
    }

    /** Makes a new head: key 0 is an ARRAY of so many LOWS, the other key RUNS of what comes behind. */
    private static void alterToRuns(Index x, int lows, int key, int runs, int numbers) {
        int[] head = new int[15 + 2 * lows];
        int[] first = {0x3B, 0x30, 1, 0, 2, 0, 0, lows - 1, 0, key, 0, numbers - 1 & 255, numbers - 1 >> 8};
        System.arraycopy(first, 0, head, 0, first.length);
        for (int low = 0; low < lows; low++) {
            head[first.length + 2 * low] = low;
        }
        head[head.length - 2] = runs & 255;
        head[head.length - 1] = runs >> 8;
        for (int i = 0; i < head.length; i++) {
            x.alter(i, head[i]);
        }
        x.cut(head.length + 4 * runs);
    }

    /** In each 32 LOWS of key 0, the ones from 11 on hold bits 0 to 10 of how many 32 are ahead. */
    private static void countingBits(Index x, int set) {
        for (int bit = 0; bit < 5; bit++) {
            for (int i = 1 << bit; i < 2 << bit; i++) {
                x.steps(set, 0, 32 * i + 11 + bit, 64 << bit);
            }
        }
        for (int bit = 5; bit < 11; bit++) {
            int half = 32 << bit;
            x.clear(5);
            x.clear(6);
            for (int from = half; from < 65536; from += 2 * half) {
                x.range(5, 0, from, from + half - 1, 0);
            }
            x.steps(6, 0, 11 + bit, 32);
            x.formula(set, signs(set, 5, 6, AND, OR), 5);
        }
    }

    /**
     * A set that is written by 59999 bytes, the most that a set with RUNS can have (their number is
     * never even): an ARRAY of the LOWS 0 to 1302, twice 4095 RUNS and three BITMAPS.
     */
    static void longSet(Index x, int set) {
        singleRuns(x, set, 4095, false);
        x.alter(9, 2);
        x.read(5);
        x.join(set, 1, set, 5);
        x.clear(5);
        for (int key = 3; key < 6; key++) {
            x.steps(set, key, 0, 2);
        }
        x.range(set, 0, 0, 1302, 0);
    }

    /** Likewise, but with three containers, so that no places are told: LOWS 0 to 12, 8191 RUNS, 6797 RUNS. */
    static void longSetOfThree(Index x, int set) {
        singleRuns(x, set, 8191, false);
        alterToRuns(x, 13, 2, 6797, 6797);
        x.read(5);
        x.join(set, 1, set, 5);
        x.clear(5);
    }
}

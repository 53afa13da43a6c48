import java.util.BitSet;

/** Promises 17 to 26 but for the faults: write, read, cut, type, at, alter, work, size, digest. */
public final class BytesTest {
    private static final int BAD = -2, LONG = -4, SPENT = -5;
    private static final Due due = new Due("BytesTest");

    public static void main(String[] args) {
        writePlain();
        writeRuns();
        writePlacesWithFourOrMore();
        writeBitmap();
        writeLong();
        writeBad();
        read();
        readMarkOfRunsWithoutRuns();
        faultOfTheLatest();
        cut();
        type();
        atAndAlter();
        workAndSize();
        digest();
        due.end();
    }

    private static void writePlain() {
        Index x = new CountedIndex();
        x.add(0, 0x00010203);
        x.add(0, 0x00010204);
        x.add(0, 0xFFFEFFFF);
        due.is("write", x.write(0), 30);
        dueBytes(x, 0x3A, 0x30, 0, 0, 2, 0, 0, 0,
            1, 0, 1, 0, 0xFE, 0xFF, 0, 0,
            24, 0, 0, 0, 28, 0, 0, 0,
            3, 2, 4, 2, 0xFF, 0xFF);
        due.is("write of an empty one", x.write(1), 8);
        dueBytes(x, 0x3A, 0x30, 0, 0, 0, 0, 0, 0);
    }

    private static void writeRuns() {
        Index x = new CountedIndex();
        x.range(0, 5, 0, 99, 0);
        x.range(0, 5, 65000, 65535, 0);
        x.add(0, 9 << 16);
        x.range(0, 10, 258, 1000, 0);
        x.shrink(0);
        due.is("write", x.write(0), 5 + 12 + 10 + 2 + 6);
        dueBytes(x, 0x3B, 0x30, 2, 0, 5,
            5, 0, 0x7B, 2, 9, 0, 0, 0, 10, 0, 0xE6, 2,
            2, 0, 0, 0, 99, 0, 0xE8, 0xFD, 0x17, 2,
            0, 0,
            1, 0, 2, 1, 0xE6, 2);
    }

    private static void writePlacesWithFourOrMore() {
        Index x = new CountedIndex();
        for (int k = 0; k < 3; k++) {
            x.range(0, k, 0, 9, 0);
        }
        x.shrink(0);
        due.is("three have no places", x.write(0), 5 + 12 + 18);
        x.range(0, 3, 0, 0, 0);
        due.is("four have them", x.write(0), 5 + 32 + 20);
        dueBytes(x, 0x3B, 0x30, 3, 0, 7,
            0, 0, 9, 0, 1, 0, 9, 0, 2, 0, 9, 0, 3, 0, 0, 0,
            37, 0, 0, 0, 43, 0, 0, 0, 49, 0, 0, 0, 55, 0, 0, 0,
            1, 0, 0, 0, 9, 0, 1, 0, 0, 0, 9, 0, 1, 0, 0, 0, 9, 0, 0, 0);
    }

    private static void writeBitmap() {
        Index x = new CountedIndex();
        x.range(0, 1, 0, 4095, 0);
        due.is("an array of 4096", x.write(0), 16 + 8192);
        x.add(0, 65536 + 65535);
        due.is("a bitmap", x.write(0), 16 + 8192);
        due.is("its head", x.at(10) + 256 * x.at(11), 4096);
        due.is("its first byte", x.at(16), 255);
        due.is("byte 511 of it", x.at(16 + 511), 255);
        due.is("byte 512 of it", x.at(16 + 512), 0);
        due.is("its last byte", x.at(16 + 8191), 128);
    }

    /** Runs of singles, which only a read can make, are long: two such containers and more are too long. */
    private static void writeLong() {
        Index x = new CountedIndex();
        Made.longSet(x, 3);
        due.is("two are runs", x.count(3, 4), 2);
        due.is("59999 bytes", x.write(3), 59999);
        x.add(3, 1303);
        due.is("60001 bytes", x.write(3), LONG);
        due.is("the bytes stay", x.size(), 59999);
        due.is("and can be read", x.read(4), 1303 + 2 * 4095 + 3 * 32768);
        x.shrink(4);
        due.is("shrunken it is short", x.write(4), 53 + 6 + 2 * 8190 + 3 * 8192);
    }

    private static void writeBad() {
        Index x = new CountedIndex();
        x.type(5, 1);
        due.is("write(8)", x.write(8), BAD);
        due.is("write(-1)", x.write(-1), BAD);
        due.is("the bytes stay", x.size(), 1);
    }

    private static void read() {
        Index x = new CountedIndex();
        x.range(0, 0, 0, 9999, 0);
        x.steps(0, 1, 0, 2);
        x.steps(0, 2, 5, 1000);
        x.range(0, 65535, 65535, 65535, 0);
        for (int pass = 0; pass < 2; pass++) {
            x.write(0);
            x.add(1, -1);
            due.is("read", x.read(1), 10000 + 32768 + 66 + 1);
            due.is("fault", x.fault(), 0);
            due.is("the same", x.compare(0, 1), 2);
            for (int k = 0; k < 4; k++) {
                due.is("kind of " + k, x.container(1, k, 1), x.container(0, k, 1));
                due.is("key of " + k, x.container(1, k, 0), x.container(0, k, 0));
            }
            x.shrink(0);
        }
        due.is("read(8)", x.read(8), BAD);
        due.is("read(-1)", x.read(-1), BAD);
        due.is("work", x.work(), 300 - 4);
        due.is("the bytes are still there", x.size() > 0 ? 1 : 0, 1);
    }

    /** 12347 with no bit is not written, but no fault speaks against it: no places below four. */
    private static void readMarkOfRunsWithoutRuns() {
        Index x = new CountedIndex();
        type(x, 0x3B, 0x30, 1, 0, 0, 1, 0, 0, 0, 2, 0, 0, 0, 7, 0, 8, 0);
        due.is("two arrays", x.read(0), 2);
        due.is("of kind array", x.count(0, 2), 2);
        due.is("the second", x.select(0, 1), 2L * 65536 + 8);
    }

    private static void faultOfTheLatest() {
        Index x = new CountedIndex();
        due.is("before any", x.fault(), 0);
        due.is("no bytes", x.read(0), -100);
        due.is("the end", x.fault(), 1);
        x.read(8);
        due.is("after a BAD", x.fault(), 1);
        x.write(0);
        due.is("write leaves it", x.fault(), 1);
        due.is("read", x.read(0), 0);
        due.is("none", x.fault(), 0);
        x.cut(3);
        for (int k = 0; k < 298; k++) {
            x.join(0, 0, 0, 0);
        }
        due.is("no work", x.read(0), SPENT);
        due.is("after a SPENT", x.fault(), 0);
    }

    private static void cut() {
        Index x = new CountedIndex();
        due.is("cut none of none", x.cut(0), 0);
        due.is("cut(1) of none", x.cut(1), BAD);
        x.type(0x0807060504030201L, 8);
        due.is("cut(9)", x.cut(9), BAD);
        due.is("cut(-1)", x.cut(-1), BAD);
        due.is("cut(MIN)", x.cut(Integer.MIN_VALUE), BAD);
        due.is("cut(8)", x.cut(8), 0);
        due.is("cut(3)", x.cut(3), 5);
        due.is("size", x.size(), 3);
        due.is("at(2)", x.at(2), 3);
        due.is("at(3)", x.at(3), BAD);
        x.type(0, 1);
        due.is("what was cut is gone", x.at(3), 0);
    }

    private static void type() {
        Index x = new CountedIndex();
        due.is("type none", x.type(-1, 0), 0);
        due.is("type 8", x.type(0x88FF7F0180C0A055L, 8), 8);
        dueBytes(x, 0x55, 0xA0, 0xC0, 0x80, 0x01, 0x7F, 0xFF, 0x88);
        due.is("type 3", x.type(-2, 3), 11);
        due.is("its first", x.at(8), 254);
        due.is("its last", x.at(10), 255);
        due.is("type(0, 9)", x.type(0, 9), BAD);
        due.is("type(0, -1)", x.type(0, -1), BAD);
        due.is("type(0, MIN)", x.type(0, Integer.MIN_VALUE), BAD);
        Made.longSet(x, 0);
        x.write(0);
        due.is("nearly all", x.cut(59995), 4);
        due.is("6 are too many", x.type(0, 6), LONG);
        due.is("none has come", x.size(), 59995);
        due.is("5 are not", x.type(0x0504030201L, 5), 60000);
        due.is("the last", x.at(59999), 5);
        due.is("1 is too many", x.type(0, 1), LONG);
        due.is("0 are not", x.type(0, 0), 60000);
        due.is("BAD is ahead of LONG", x.type(0, 9), BAD);
        due.is("cut", x.cut(59999), 1);
        due.is("room again", x.type(7, 1), 60000);
    }

    private static void atAndAlter() {
        Index x = new CountedIndex();
        due.is("at(0) of none", x.at(0), BAD);
        due.is("alter(0, 0) of none", x.alter(0, 0), BAD);
        x.type(0xFF80, 2);
        due.is("at(0)", x.at(0), 128);
        due.is("at(1)", x.at(1), 255);
        due.is("at(2)", x.at(2), BAD);
        due.is("at(-1)", x.at(-1), BAD);
        due.is("at(MAX)", x.at(Integer.MAX_VALUE), BAD);
        due.is("alter(0, 255)", x.alter(0, 255), 128);
        due.is("alter(0, 0)", x.alter(0, 0), 255);
        due.is("it is 0", x.at(0), 0);
        due.is("the other stays", x.at(1), 255);
        due.is("alter(0, 256)", x.alter(0, 256), BAD);
        due.is("alter(0, -1)", x.alter(0, -1), BAD);
        due.is("alter(2, 0)", x.alter(2, 0), BAD);
        due.is("alter(-1, 0)", x.alter(-1, 0), BAD);
        due.is("a BAD changes nothing", x.at(0), 0);
    }

    private static void workAndSize() {
        Index x = new CountedIndex();
        due.is("work", x.work(), 300);
        x.join(0, 0, 0, 0);
        due.is("join takes 1", x.work(), 299);
        x.shrink(0);
        due.is("shrink takes 1", x.work(), 298);
        x.formula(0, Made.signs(255, 0, 255, 255), 4);
        due.is("formula takes n", x.work(), 294);
        x.read(0);
        due.is("read with a fault takes 1", x.work(), 293);
        due.is("size", x.size(), x.write(0) - 8);
        due.is("size then", x.size(), 8);
        due.is("write takes none", x.work(), 293);
    }

    /** The words are reckoned here from the LOWS that came, the rest from the answers of count and container. */
    private static void digest() {
        Index x = new CountedIndex();
        x.steps(1, 3, 0, 7);
        x.range(1, 65535, 60000, 65535, 0);
        x.add(1, Integer.MIN_VALUE);
        x.range(7, 0, 63, 128, 0);
        x.shrink(7);
        BitSet everySeventh = new BitSet();
        for (int low = 0; low < 65536; low += 7) {
            everySeventh.set(low);
        }
        BitSet[] lows = {everySeventh, bits(0, 0), bits(60000, 65535), bits(63, 128)};
        int seen = 0;
        long h = 17;
        for (int s = 0; s < 8; s++) {
            h = 31 * h + x.count(s, 0);
            h = 31 * h + x.count(s, 1);
            for (int k = 0; k < x.count(s, 1); k++) {
                for (int what = 0; what < 4; what++) {
                    h = 31 * h + x.container(s, k, what);
                }
                h = withWords(lows[seen++], h);
            }
        }
        due.is("digest", x.digest(), h);
        x.type(1, 1);
        x.shrink(6);
        due.is("bytes and work are not in it", x.digest(), h);
    }

    private static BitSet bits(int from, int to) {
        BitSet found = new BitSet();
        found.set(from, to + 1);
        return found;
    }

    private static long withWords(BitSet lows, long start) {
        long h = start;
        for (int w = 0; w < 1024; w++) {
            long word = 0;
            for (int b = 0; b < 64; b++) {
                word |= (lows.get(64 * w + b) ? 1L : 0L) << b;
            }
            h = 31 * h + word;
        }
        return h;
    }

    private static void type(Index x, int... bytes) {
        for (int b : bytes) {
            x.type(b, 1);
        }
    }

    private static void dueBytes(Index x, int... bytes) {
        due.is("size", x.size(), bytes.length);
        for (int i = 0; i < bytes.length; i++) {
            due.is("at(" + i + ")", x.at(i), bytes[i]);
        }
    }
}

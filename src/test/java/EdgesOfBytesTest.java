/** The boundary cases, sentence by sentence, of Terms part 2 (THE BYTES) and of promises 17, 20 to 23 and 25. */
public final class EdgesOfBytesTest {
    private static final int BAD = -2, LONG = -4;
    private static final int MIN = Integer.MIN_VALUE, MAX = Integer.MAX_VALUE;
    private static final Due due = new Due("EdgesOfBytesTest");

    public static void main(String[] args) {
        noBytesAtFirst();
        sixtyThousandAtMost();
        nIsHowManyContainers();
        withoutRuns();
        withRuns();
        keysAndTotals();
        placesOrNot();
        bytesOfAnArray();
        bytesOfABitmap();
        bytesOfRuns();
        promise17();
        promise20();
        promise21();
        promise22();
        promise23();
        promise25();
        due.end();
    }

    private static void dueBytes(String what, Index x, int... bytes) {
        due.is(what + ": size", x.size(), bytes.length);
        dueFrom(what, x, 0, bytes);
    }

    private static void dueFrom(String what, Index x, int from, int... bytes) {
        for (int i = 0; i < bytes.length; i++) {
            due.is(what + ": byte " + (from + i), x.at(from + i), bytes[i]);
        }
    }

    // ---- Terms, 2 THE BYTES

    private static void noBytesAtFirst() {
        due.says("Terms", "THE BYTES (60000 at most; none at first) are in the portable form; "
            + "numbers of several bytes have the lowest one first.");
        Index x = new CountedIndex();
        due.is("none at first", x.size(), 0);
        due.is("no byte 0", x.at(0), BAD);
        x.range(0, 0x0102, 0x0304, 0x0708, 0);
        x.write(0);
        dueFrom("lowest first", x, 0, 0x3A, 0x30, 0, 0, 1, 0, 0, 0, 0x02, 0x01, 0x04, 0x04, 16, 0, 0, 0, 0x04, 0x03);
    }

    private static void sixtyThousandAtMost() {
        due.says("Terms", "THE BYTES (60000 at most; none at first) are in the portable form; "
            + "numbers of several bytes have the lowest one first.");
        Index x = new CountedIndex();
        Made.longSet(x, 0);
        due.is("59999 bytes", x.write(0), 59999);
        due.is("one more", x.type(0x55, 1), 60000);
        due.is("it is there", x.at(59999), 0x55);
        Watch watch = new Watch(due, x);
        watch.refused("one too many", x.type(0, 1), LONG);
        watch.refused("eight too many", x.type(0, 8), LONG);
        watch.refused("none more", x.type(0, 0), 60000);
        watch.refused("byte 60000", x.at(60000), BAD);
        watch.refused("alter byte 60000", x.alter(60000, 1), BAD);
        due.is("all are cut", x.cut(0), 60000);
        due.is("none is left", x.size(), 0);
    }

    private static void nIsHowManyContainers() {
        due.says("Terms", "n is how many CONTAINERS there are.");
        Index x = new CountedIndex();
        for (int n = 0; n <= 6; n++) {
            x.write(0);
            dueFrom("n " + n, x, 4, n, 0, 0, 0);
            x.range(0, 65535 - n, 0, 9, 0);
        }
        for (int n = 6; n >= 1; n--) {
            x.shrink(0);
            x.write(0);
            dueFrom("n - 1 of " + n, x, 2, n - 1, 0);
            x.range(0, 65536 - n, 0, 65535, 1);
        }
        due.is("n 0 again", x.write(0), 8);
        dueFrom("n 0 again", x, 0, 0x3A, 0x30, 0, 0, 0, 0, 0, 0);
    }

    private static void withoutRuns() {
        due.says("Terms", "Without any of KIND RUNS: 12346 (4 bytes), n (4 bytes).");
        Index x = new CountedIndex();
        due.is("n 0", x.write(0), 8);
        dueBytes("n 0", x, 0x3A, 0x30, 0, 0, 0, 0, 0, 0);
        x.add(0, 0);
        due.is("n 1", x.write(0), 18);
        dueBytes("n 1", x, 0x3A, 0x30, 0, 0, 1, 0, 0, 0, 0, 0, 0, 0, 16, 0, 0, 0, 0, 0);
        Made.six(x, 0);
        due.is("n 6", x.write(0), 8 + 48 + 12);
        dueFrom("n 6", x, 0, 0x3A, 0x30, 0, 0, 6, 0, 0, 0);
        x.range(1, 0, 0, 65535, 0);
        due.is("a BITMAP is not RUNS, though its LOWS are one row", x.write(1), 16 + 8192);
        dueFrom("a BITMAP", x, 0, 0x3A, 0x30, 0, 0, 1, 0, 0, 0);
        x.shrink(1);
        x.add(1, 5);
        due.is("RUNS", x.write(1), 4 + 1 + 4 + 6);
        x.remove(1, 5);
        due.is("RUNS no more", x.write(1), 16 + 8192);
        dueFrom("RUNS no more", x, 0, 0x3A, 0x30, 0, 0, 1, 0, 0, 0);
    }

    private static void withRuns() {
        due.says("Terms", "Else 12347 (2 bytes), n - 1 (2 bytes), then a bit for each CONTAINER, of each byte the lowest "
            + "first, 1 for RUNS (as few bytes as do; what is over is 0).");
        Index x = new CountedIndex();
        x.range(0, 0, 0, 9, 0);
        x.shrink(0);
        due.is("n 1", x.write(0), 15);
        dueBytes("n 1", x, 0x3B, 0x30, 0, 0, 1, 0, 0, 9, 0, 1, 0, 0, 0, 9, 0);
        for (int key = 1; key < 6; key++) {
            x.add(0, key << 16);
        }
        x.write(0);
        dueFrom("n 6, the first", x, 0, 0x3B, 0x30, 5, 0, 1);
        for (int last = 1; last < 6; last++) {
            x.clear(1);
            for (int key = 0; key <= last; key++) {
                x.range(1, key, 0, key == last ? 9 : 1, 0);
            }
            x.shrink(1);
            x.write(1);
            dueFrom("n " + (last + 1) + ", the last", x, 0, 0x3B, 0x30, last, 0, 1 << last);
        }
        for (int key = 0; key < 6; key++) {
            x.range(2, key, 0, 9, 0);
        }
        x.shrink(2);
        x.write(2);
        dueFrom("n 6, all: two bits over are 0", x, 0, 0x3B, 0x30, 5, 0, 63);
        x.clear(2);
        x.range(2, 9, 0, 9, 0);
        x.shrink(2);
        due.is("n 1, where six were", x.write(2), 15);
        dueFrom("n 1, where six were: all over is 0", x, 0, 0x3B, 0x30, 0, 0, 1);
    }

    private static void keysAndTotals() {
        due.says("Terms", "For each CONTAINER its KEY (2 bytes), how many NUMBERS less 1 (2 bytes).");
        Index x = new CountedIndex();
        x.add(0, 0);
        x.range(0, 255, 0, 255, 0);
        x.range(0, 256, 0, 256, 0);
        x.range(0, 65535, 0, 65535, 0);
        x.write(0);
        dueFrom("1, 256, 257 and 65536 NUMBERS", x, 8,
            0, 0, 0, 0, 255, 0, 255, 0, 0, 1, 0, 1, 255, 255, 255, 255);
        x.shrink(0);
        x.write(0);
        dueFrom("the same as RUNS", x, 5, 0, 0, 0, 0, 255, 0, 255, 0, 0, 1, 0, 1, 255, 255, 255, 255);
    }

    private static void placesOrNot() {
        due.says("Terms", "Then, if it began with 12346, or n is 4 or more: for each the place of its first byte "
            + "below (4 bytes).");
        Index x = new CountedIndex();
        x.range(0, 0, 0, 9, 0);
        x.range(0, 1, 0, 9, 0);
        x.add(0, 2 << 16);
        due.is("12346, n 3", x.write(0), 8 + 24 + 42);
        dueFrom("12346, n 3", x, 20, 32, 0, 0, 0, 52, 0, 0, 0, 72, 0, 0, 0);
        x.shrink(0);
        due.is("12347, n 3: none", x.write(0), 5 + 12 + 6 + 6 + 2);
        dueFrom("12347, n 3: the first RUNS at once", x, 17, 1, 0, 0, 0, 9, 0);
        x.add(0, 3 << 16);
        due.is("12347, n 4", x.write(0), 5 + 32 + 6 + 6 + 2 + 2);
        dueFrom("12347, n 4", x, 21, 37, 0, 0, 0, 43, 0, 0, 0, 49, 0, 0, 0, 51, 0, 0, 0);
        for (int key = 0; key < 6; key++) {
            x.range(1, key, 0, 65535, 0);
        }
        due.is("12346, n 6 BITMAPS", x.write(1), 8 + 48 + 6 * 8192);
        dueFrom("places of two bytes", x, 32, 56, 0, 0, 0, 56, 32, 0, 0, 56, 64, 0, 0, 56, 96, 0, 0, 56, 128, 0, 0,
            56, 160, 0, 0);
        x.clear(2);
        x.add(2, 5);
        due.is("12346, n 1", x.write(2), 18);
        dueFrom("12346, n 1", x, 12, 16, 0, 0, 0, 5, 0);
    }

    private static void bytesOfAnArray() {
        due.says("Terms", "Then for each: of an ARRAY its LOWS (2 bytes each), rising;");
        Index x = new CountedIndex();
        x.add(0, 65535);
        x.add(0, 256);
        x.add(0, 255);
        x.add(0, 0);
        due.is("4 LOWS", x.write(0), 16 + 8);
        dueFrom("4 LOWS", x, 16, 0, 0, 255, 0, 0, 1, 255, 255);
        x.steps(1, 0, 15, 16);
        due.is("4096 LOWS", x.write(1), 16 + 8192);
        dueFrom("the first two", x, 16, 15, 0, 31, 0);
        dueFrom("the last two", x, 16 + 8188, 239, 255, 255, 255);
    }

    private static void bytesOfABitmap() {
        due.says("Terms", "of a BITMAP 1024 words of 8 bytes, LOW 64 w + b being bit b of word w;");
        Index x = new CountedIndex();
        x.range(0, 0, 20000, 24999, 0);
        for (int low : new int[] {0, 7, 8, 63, 64, 127, 65471, 65472, 65535}) {
            x.add(0, low);
        }
        due.is("a BITMAP", x.write(0), 16 + 8192);
        dueFrom("words 0 and 1", x, 16, 0x81, 1, 0, 0, 0, 0, 0, 0x80, 1, 0, 0, 0, 0, 0, 0, 0x80);
        dueFrom("words 1022 and 1023", x, 16 + 8176, 0, 0, 0, 0, 0, 0, 0, 0x80, 1, 0, 0, 0, 0, 0, 0, 0x80);
        dueFrom("20000 is the first of its byte", x, 16 + 2499, 0, 255);
        dueFrom("24999 is the last of its byte", x, 16 + 3124, 255, 0);
        x.clear(0);
        x.range(0, 0, 0, 4096, 0);
        due.is("4097 LOWS, the fewest", x.write(0), 16 + 8192);
        dueFrom("4096 is a bit alone", x, 16 + 511, 255, 1, 0);
    }

    private static void bytesOfRuns() {
        due.says("Terms", "of RUNS their number (2 bytes), then of each its first LOW and how many more follow it "
            + "(2 bytes each), rising.");
        Index x = new CountedIndex();
        x.range(0, 0, 0, 65535, 0);
        x.shrink(0);
        x.write(0);
        dueFrom("one of all", x, 9, 1, 0, 0, 0, 255, 255);
        x.clear(0);
        x.range(0, 0, 65000, 65535, 0);
        x.range(0, 0, 258, 1000, 0);
        x.range(0, 0, 256, 256, 0);
        x.range(0, 0, 0, 1, 0);
        x.shrink(0);
        due.is("four", x.write(0), 9 + 18);
        dueFrom("four, one of them a LOW alone", x, 9, 4, 0, 0, 0, 1, 0, 0, 1, 0, 0, 2, 1, 0xE6, 2, 0xE8, 0xFD, 0x17, 2);
        Made.rows(x, 1, 0, 2047, 4096);
        x.shrink(1);
        due.is("2047, the most that shrink() makes", x.write(1), 9 + 2 + 4 * 2047);
        dueFrom("their number", x, 9, 0xFF, 7);
        dueFrom("the last", x, 9 + 2 + 4 * 2046, 0xE0, 0x7F, 1, 0);
        Index y = new CountedIndex();
        Made.singleRuns(y, 0, 4095, false);
        due.is("4095, as read", y.write(0), 16405);
        dueFrom("their number", y, 23, 0xFF, 0x0F);
        dueFrom("the last", y, 16401, 0xF0, 0x7F, 0, 0);
    }

    // ---- Promise 17

    private static void promise17() {
        due.says("Promise 17", "A SET is written; these are THE BYTES then: how many.");
        Index x = new CountedIndex();
        x.range(0, 0, 0, 9, 0);
        x.type(-1, 8);
        due.is("what was there is gone", x.write(0), 36);
        due.is("so many", x.size(), 36);
        due.is("its first byte", x.at(0), 0x3A);
        due.is("an empty SET", x.write(1), 8);
        due.is("the rest is gone", x.at(8), BAD);
        due.is("the SET stays", x.count(0, 0), 10);
        x.clear(0);
        due.is("THE BYTES stay as the SET changes", x.size(), 8);
        writeBadOrLong();
    }

    private static void writeBadOrLong() {
        due.says("Promise 17", "BAD; LONG: more than 60000 (THE BYTES stay).");
        Index x = new CountedIndex();
        Made.longSet(x, 0);
        x.cut(0);
        x.type(0x030201, 3);
        Watch watch = new Watch(due, x);
        watch.refused("write(-1)", x.write(-1), BAD);
        watch.refused("write(8)", x.write(8), BAD);
        x.add(0, 1303);
        watch.anew();
        watch.refused("60001", x.write(0), LONG);
        x.remove(0, 1303);
        due.is("59999", x.write(0), 59999);
        x.range(0, 0, 1303, 4095, 0);
        watch.anew();
        watch.refused("far more", x.write(0), LONG);
        due.is("the first byte is the old one", x.at(0), 0x3B);
        due.is("the last too: the LOW 65534 of every second", x.at(59998), 0x55);
        due.is("and can be read", x.read(1), 1303 + 2 * 4095 + 3 * 32768);
        x.shrink(0);
        due.is("shrunken it is short enough", x.write(0), 53 + 6 + 2 * 8190 + 3 * 8192);
        longWithoutPlaces();
        longWhereOthersWere();
    }

    /** What a SET held before has no say in how long it is. */
    private static void longWhereOthersWere() {
        Index x = new CountedIndex();
        for (int key = 0; key < 6; key++) {
            x.steps(7, key, 0, 2);
        }
        for (int set = 0; set < 7; set++) {
            x.join(set, 1, 7, 7);
        }
        for (int set = 0; set < 8; set++) {
            x.clear(set);
        }
        Made.longSetOfThree(x, 0);
        due.is("59999, where six BITMAPS were", x.write(0), 59999);
    }

    private static void longWithoutPlaces() {
        Index x = new CountedIndex();
        Made.longSetOfThree(x, 0);
        due.is("three, two of them RUNS", x.count(0, 1) * 10 + x.count(0, 4), 32);
        due.is("59999 without places", x.write(0), 59999);
        due.is("can be read", x.read(1), 13 + 8191 + 6797);
        x.add(0, 13);
        Watch watch = new Watch(due, x);
        watch.refused("60001 without places", x.write(0), LONG);
        x.add(1, 3 << 16);
        watch.anew();
        watch.refused("a fourth, so that there are places", x.write(1), LONG);
        x.range(1, 0, 2, 12, 1);
        due.is("60021 less 22 with places", x.write(1), 59999 + 4 + 16 + 2 - 22);
    }

    // ---- Promises 20 to 23 and 25

    private static void promise20() {
        due.says("Promise 20", "THE BYTES have the first n alone: how many are gone.");
        Index x = new CountedIndex();
        due.is("none of none", x.cut(0), 0);
        x.type(0x0807060504030201L, 8);
        due.is("all stay", x.cut(8), 0);
        due.is("one goes", x.cut(7), 1);
        due.is("byte 7 is gone", x.at(7), BAD);
        due.is("byte 6 stays", x.at(6), 7);
        due.is("one stays", x.cut(1), 6);
        due.is("the first", x.at(0), 1);
        due.is("all go", x.cut(0), 1);
        due.is("none is left", x.size(), 0);
        x.type(0, 2);
        due.is("new ones come at the first place", x.at(0) + x.at(1), 0);
        due.says("Promise 20", "BAD: they are not so many.");
        Index y = new CountedIndex();
        Watch watch = new Watch(due, y);
        watch.refused("1 of none", y.cut(1), BAD);
        watch.refused("-1 of none", y.cut(-1), BAD);
        y.type(0x030201, 3);
        watch.anew();
        for (int n : new int[] {MIN, -3, -1, 4, 60000, 60001, MAX}) {
            watch.refused("cut(" + n + ")", y.cut(n), BAD);
        }
    }

    private static void promise21() {
        due.says("Promise 21", "m bytes (0 to 8), the lowest of a number first, come behind THE BYTES: how many.");
        Index x = new CountedIndex();
        due.is("none", x.type(-1, 0), 0);
        due.is("one of -1", x.type(-1, 1), 1);
        due.is("the lowest alone", x.type(0x0807060504030201L, 1), 2);
        due.is("two", x.type(0x0807060504030201L, 2), 4);
        due.is("seven", x.type(0x8877665544332211L, 7), 11);
        due.is("eight of the least long", x.type(Long.MIN_VALUE, 8), 19);
        due.is("eight of the greatest", x.type(Long.MAX_VALUE, 8), 27);
        due.is("none more", x.type(5, 0), 27);
        dueBytes("all", x, 255, 1, 1, 2, 0x11, 0x22, 0x33, 0x44, 0x55, 0x66, 0x77,
            0, 0, 0, 0, 0, 0, 0, 0x80, 255, 255, 255, 255, 255, 255, 255, 0x7F);
        due.says("Promise 21", "BAD; LONG.");
        Watch watch = new Watch(due, x);
        for (int m : new int[] {MIN, -8, -1, 9, 16, 256, MAX}) {
            watch.refused("m " + m, x.type(1, m), BAD);
        }
        Index y = new CountedIndex();
        Made.longSet(y, 0);
        y.write(0);
        y.cut(59992);
        watch = new Watch(due, y);
        due.is("eight to the end", y.type(0x0807060504030201L, 8), 60000);
        due.is("the last", y.at(59999), 8);
        watch.anew();
        for (int m = 1; m <= 8; m++) {
            watch.refused(m + " behind the end", y.type(0, m), LONG);
        }
        watch.refused("BAD is ahead of LONG", y.type(0, 9), BAD);
        watch.refused("BAD is ahead of LONG, below 0", y.type(0, -1), BAD);
        y.cut(59995);
        watch.anew();
        watch.refused("six where five have room: none comes", y.type(0, 6), LONG);
        due.is("five where five have room", y.type(0, 5), 60000);
    }

    private static void promise22() {
        due.says("Promise 22", "Byte i of THE BYTES.");
        Index x = new CountedIndex();
        x.type(0xFF807F00L, 4);
        int[] bytes = {0, 127, 128, 255};
        for (int i = 0; i < 4; i++) {
            due.is("at(" + i + ")", x.at(i), bytes[i]);
        }
        due.says("Promise 22", "BAD.");
        Watch watch = new Watch(due, x);
        for (int i : new int[] {MIN, -1, 4, 5, 1023, 1024, 59999, 60000, MAX}) {
            watch.refused("at(" + i + ")", x.at(i), BAD);
        }
        x.cut(0);
        due.is("at(0) of none", x.at(0), BAD);
    }

    private static void promise23() {
        due.says("Promise 23", "It becomes v (0 to 255): what it was.");
        Index x = new CountedIndex();
        x.type(0xFF80L, 2);
        due.is("128 becomes 0", x.alter(0, 0), 128);
        due.is("0 becomes 255", x.alter(0, 255), 0);
        due.is("255 becomes 255", x.alter(0, 255), 255);
        due.is("it is 255", x.at(0), 255);
        due.is("the last becomes 127", x.alter(1, 127), 255);
        due.is("it is 127", x.at(1), 127);
        due.is("there are as many", x.size(), 2);
        due.says("Promise 23", "BAD.");
        Watch watch = new Watch(due, x);
        for (int v : new int[] {MIN, -128, -1, 256, 511, 65536, MAX}) {
            watch.refused("v " + v, x.alter(0, v), BAD);
        }
        for (int i : new int[] {MIN, -1, 2, 3, 1023, 1024, 60000, MAX}) {
            watch.refused("i " + i, x.alter(i, 7), BAD);
        }
        x.cut(0);
        watch.anew();
        watch.refused("of none", x.alter(0, 7), BAD);
    }

    private static void promise25() {
        due.says("Promise 25", "How many BYTES there are.");
        Index x = new CountedIndex();
        due.is("none", x.size(), 0);
        x.type(0, 0);
        due.is("none still", x.size(), 0);
        x.type(0, 1);
        due.is("one", x.size(), 1);
        x.alter(0, 5);
        due.is("one still", x.size(), 1);
        x.write(7);
        due.is("eight", x.size(), 8);
        x.read(0);
        due.is("eight still", x.size(), 8);
        x.type(0, 1);
        x.read(0);
        due.is("nine, with a FAULT", x.size(), 9);
        x.cut(0);
        due.is("none again", x.size(), 0);
        Index y = new CountedIndex();
        Made.longSet(y, 0);
        y.write(0);
        y.type(0, 1);
        due.is("as many as can be", y.size(), 60000);
    }
}

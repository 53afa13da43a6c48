/** The boundary cases, sentence by sentence, of Terms part 3 (READING and its FAULTS) and of promises 18 and 19. */
public final class EdgesOfReadingTest {
    private static final int BAD = -2, SPENT = -5;
    private static final int BITMAP_END = 16 + 8192;
    private static final Due due = new Due("EdgesOfReadingTest");

    public static void main(String[] args) {
        fromTheFirstByteOn();
        theFirstMet();
        fault1InTheHead();
        fault1InEachKind();
        fault1AtEachPlace();
        fault2();
        fault3();
        fault4();
        fault5();
        fault6();
        fault7OfAnArray();
        fault7OfRuns();
        fault8OfRuns();
        fault8OfABitmap();
        fault9();
        arrayOrBitmapByTheHead();
        theHeadFirst();
        nothingWithN0();
        kindsAsRead();
        promise18();
        promise19();
        due.end();
    }

    /** Reads these bytes where a SET of RUNS is, and looks at all that a read with a FAULT must leave. */
    private static void faulty(String what, int fault, int place, int... bytes) {
        Index x = new CountedIndex();
        x.range(5, 3, 0, 9, 0);
        x.shrink(5);
        Made.bytes(x, bytes);
        faulty(what, x, fault, place);
    }

    private static void faulty(String what, Index x, int fault, int place) {
        long sets = x.digest();
        int size = x.size();
        int work = x.work();
        due.is(what + ": read(5)", x.read(5), -100 - place);
        due.is(what + ": fault()", x.fault(), fault);
        due.is(what + ": the SETS stay", x.digest(), sets);
        due.is(what + ": THE BYTES stay", x.size(), size);
        due.is(what + ": WORK", x.work(), work - 1);
    }

    private static Index sound(String what, int numbers, int... bytes) {
        Index x = new CountedIndex();
        x.range(5, 3, 0, 9, 0);
        Made.bytes(x, bytes);
        sound(what, x, numbers);
        return x;
    }

    private static void sound(String what, Index x, int numbers) {
        int size = x.size();
        int work = x.work();
        due.is(what + ": read(5)", x.read(5), numbers);
        due.is(what + ": fault()", x.fault(), 0);
        due.is(what + ": count(5, 0)", x.count(5, 0), numbers);
        due.is(what + ": THE BYTES stay", x.size(), size);
        due.is(what + ": WORK", x.work(), work - 1);
    }

    /** A BITMAP of key 0 with so many LOWS from 0 on, written. */
    private static Index bitmapOf(int lows) {
        Index x = new CountedIndex();
        x.range(0, 0, 0, lows - 1, 0);
        x.range(5, 3, 0, 9, 0);
        x.shrink(5);
        x.write(0);
        return x;
    }

    // ---- Terms, 3 READING

    private static void fromTheFirstByteOn() {
        due.says("Terms", "READING goes from the first byte on.");
        faulty("KEYS, then places, then LOWS are wrong: the KEYS", 5, 12,
            0x3A, 0x30, 0, 0, 2, 0, 0, 0, 1, 0, 1, 0, 1, 0, 0, 0, 99, 0, 0, 0, 99, 0, 0, 0, 5, 0, 5, 0, 5, 0);
        faulty("places, then LOWS are wrong: the place", 6, 16,
            0x3A, 0x30, 0, 0, 2, 0, 0, 0, 1, 0, 1, 0, 2, 0, 0, 0, 99, 0, 0, 0, 99, 0, 0, 0, 5, 0, 5, 0, 5, 0);
        faulty("the LOWS of the first, the place of the second: the LOW", 7, 26,
            0x3A, 0x30, 0, 0, 2, 0, 0, 0, 1, 0, 1, 0, 2, 0, 0, 0, 24, 0, 0, 0, 99, 0, 0, 0, 5, 0, 5, 0, 5, 0);
        faulty("the place of the second", 6, 20,
            0x3A, 0x30, 0, 0, 2, 0, 0, 0, 1, 0, 1, 0, 2, 0, 0, 0, 24, 0, 0, 0, 99, 0, 0, 0, 5, 0, 6, 0, 5, 0);
        sound("none", 3,
            0x3A, 0x30, 0, 0, 2, 0, 0, 0, 1, 0, 1, 0, 2, 0, 0, 0, 24, 0, 0, 0, 28, 0, 0, 0, 5, 0, 6, 0, 5, 0);
    }

    private static void theFirstMet() {
        due.says("Terms", "FAULTS, the first met, each with a place (its first byte; what lacks: how many bytes there are):");
        faulty("n is above 6, and no more bytes", 3, 2, 0x3B, 0x30, 6, 0);
        faulty("a bit over n, and no more bytes", 4, 4, 0x3B, 0x30, 0, 0, 3);
        faulty("a KEY, and no more bytes", 5, 9, 0x3B, 0x30, 1, 0, 3, 7, 0, 0, 0, 7, 0);
        faulty("a place, and no more bytes", 6, 12, 0x3A, 0x30, 0, 0, 1, 0, 0, 0, 0, 0, 0, 0, 17, 0, 0, 0);
        faulty("a LOW, and no more bytes", 7, 18, 0x3A, 0x30, 0, 0, 1, 0, 0, 0, 0, 0, 9, 0, 16, 0, 0, 0, 5, 0, 4, 0);
        faulty("a RUN, and no more bytes", 7, 15, 0x3B, 0x30, 0, 0, 1, 0, 0, 3, 0, 9, 0, 5, 0, 1, 0, 7, 0, 1, 0);
        faulty("what lacks, where much lacks", 1, 9, 0x3B, 0x30, 0, 0, 1, 0, 0, 0, 0);
    }

    private static void fault1InTheHead() {
        due.says("Terms", "1 the end, where more must come;");
        faulty("no bytes", 1, 0);
        faulty("one byte of 12346", 1, 1, 0x3A);
        faulty("two bytes of 12346", 1, 2, 0x3A, 0x30);
        faulty("three bytes of 12346", 1, 3, 0x3A, 0x30, 0);
        faulty("12346 and no n", 1, 4, 0x3A, 0x30, 0, 0);
        faulty("three bytes of n, above 6", 1, 7, 0x3A, 0x30, 0, 0, 9, 9, 9);
        faulty("12347 and no n - 1", 1, 2, 0x3B, 0x30);
        faulty("12347 and half of n - 1", 1, 3, 0x3B, 0x30, 9);
        faulty("three bytes that are neither", 1, 3, 9, 9, 9);
        faulty("no bits", 1, 4, 0x3B, 0x30, 0, 0);
        faulty("no KEY", 1, 5, 0x3B, 0x30, 0, 0, 1);
        faulty("half a KEY", 1, 6, 0x3B, 0x30, 0, 0, 1, 9);
        faulty("no total", 1, 7, 0x3B, 0x30, 0, 0, 1, 9, 0);
        faulty("half a total", 1, 8, 0x3B, 0x30, 0, 0, 1, 9, 0, 9);
        faulty("no KEY, no bit of RUNS", 1, 5, 0x3B, 0x30, 0, 0, 0);
        faulty("half a KEY, no bit of RUNS", 1, 6, 0x3B, 0x30, 0, 0, 0, 9);
        faulty("no total, no bit of RUNS", 1, 7, 0x3B, 0x30, 0, 0, 0, 9, 0);
        faulty("half a total, no bit of RUNS", 1, 8, 0x3B, 0x30, 0, 0, 0, 9, 0, 0);
        faulty("no LOW, no bit of RUNS", 1, 9, 0x3B, 0x30, 0, 0, 0, 9, 0, 0, 0);
        faulty("no second KEY, no bit of RUNS", 1, 9, 0x3B, 0x30, 1, 0, 0, 9, 0, 0, 0);
        faulty("no second total, no bit of RUNS", 1, 11, 0x3B, 0x30, 1, 0, 0, 9, 0, 0, 0, 10, 0);
        faulty("no third KEY, no bit of RUNS", 1, 13, 0x3B, 0x30, 2, 0, 0, 9, 0, 0, 0, 10, 0, 0, 0);
        faulty("half of the second KEY, though it can't rise", 1, 10, 0x3B, 0x30, 1, 0, 3, 9, 9, 0, 0, 0);
        faulty("no place", 1, 12, 0x3A, 0x30, 0, 0, 1, 0, 0, 0, 0, 0, 0, 0);
        faulty("three bytes of a place", 1, 15, 0x3A, 0x30, 0, 0, 1, 0, 0, 0, 0, 0, 0, 0, 9, 9, 9);
        faulty("no places by 12347 with n 4", 1, 21,
            0x3B, 0x30, 3, 0, 15, 0, 0, 0, 0, 1, 0, 0, 0, 2, 0, 0, 0, 3, 0, 0, 0);
    }

    private static void fault1InEachKind() {
        due.says("Terms", "1 the end, where more must come;");
        faulty("no LOW", 1, 16, 0x3A, 0x30, 0, 0, 1, 0, 0, 0, 0, 0, 1, 0, 16, 0, 0, 0);
        faulty("a LOW lacks", 1, 18, 0x3A, 0x30, 0, 0, 1, 0, 0, 0, 0, 0, 1, 0, 16, 0, 0, 0, 5, 0);
        faulty("half a LOW", 1, 19, 0x3A, 0x30, 0, 0, 1, 0, 0, 0, 0, 0, 1, 0, 16, 0, 0, 0, 5, 0, 4);
        faulty("no number of RUNS", 1, 9, 0x3B, 0x30, 0, 0, 1, 0, 0, 0, 0);
        faulty("half of it", 1, 10, 0x3B, 0x30, 0, 0, 1, 0, 0, 0, 0, 0);
        faulty("a RUN lacks", 1, 11, 0x3B, 0x30, 0, 0, 1, 0, 0, 0, 0, 1, 0);
        faulty("a RUN ends behind its first LOW", 1, 17,
            0x3B, 0x30, 0, 0, 1, 0, 0, 0, 0, 2, 0, 5, 0, 0, 0, 5, 0);
        faulty("a RUN ends ahead of its last byte", 1, 18,
            0x3B, 0x30, 0, 0, 1, 0, 0, 0, 0, 2, 0, 5, 0, 0, 0, 5, 0, 0);
        Index x = bitmapOf(4097);
        x.cut(BITMAP_END - 1);
        faulty("a byte of a BITMAP lacks", x, 1, BITMAP_END - 1);
        x.cut(BITMAP_END - 8);
        faulty("a word of a BITMAP lacks", x, 1, BITMAP_END - 8);
        x.cut(16);
        faulty("all of a BITMAP lacks", x, 1, 16);
    }

    private static void fault1AtEachPlace() {
        due.says("Terms", "1 the end, where more must come;");
        Index x = new CountedIndex();
        for (int k = 0; k < 5; k++) {
            x.range(0, 3 * k, 10, 10 + k, 0);
            x.range(0, 3 * k, 50, 51, 0);
        }
        x.shrink(0);
        int n = x.write(0);
        due.is("written", n, 5 + 40 + 6 + 8 + 10 + 10 + 10);
        for (int end = n - 1; end >= 0; end--) {
            x.cut(end);
            due.is("read of the first " + end, x.read(1), -100 - end);
            due.is("its fault", x.fault(), 1);
        }
    }

    private static void fault2() {
        due.says("Terms", "2 the first 4 bytes are not 12346, and the first 2 of them not 12347 (place 0);");
        faulty("12345", 2, 0, 0x39, 0x30, 0, 0);
        faulty("12348", 2, 0, 0x3C, 0x30, 0, 0, 0, 0, 0, 0);
        faulty("12346 with a third byte", 2, 0, 0x3A, 0x30, 1, 0, 0, 0, 0, 0);
        faulty("12346 with a fourth byte", 2, 0, 0x3A, 0x30, 0, 128, 0, 0, 0, 0);
        faulty("12346, the highest first", 2, 0, 0, 0, 0x30, 0x3A);
        faulty("12347, the highest first", 2, 0, 0x30, 0x3B, 0, 0);
        faulty("12346 one byte late", 2, 0, 0, 0x3A, 0x30, 0, 0);
        faulty("0", 2, 0, 0, 0, 0, 0);
        faulty("-1", 2, 0, 255, 255, 255, 255);
    }

    private static void fault3() {
        due.says("Terms", "3 n is above 6 (its place; of n - 1: 2);");
        faulty("n 7", 3, 4, 0x3A, 0x30, 0, 0, 7, 0, 0, 0);
        faulty("n 256", 3, 4, 0x3A, 0x30, 0, 0, 0, 1, 0, 0);
        faulty("n 65536", 3, 4, 0x3A, 0x30, 0, 0, 0, 0, 1, 0);
        faulty("n 16777216", 3, 4, 0x3A, 0x30, 0, 0, 0, 0, 0, 1);
        faulty("n 2147483648 is not below 0", 3, 4, 0x3A, 0x30, 0, 0, 0, 0, 0, 128);
        faulty("n 4294967295 is not below 0", 3, 4, 0x3A, 0x30, 0, 0, 255, 255, 255, 255);
        faulty("n - 1 is 6", 3, 2, 0x3B, 0x30, 6, 0, 0);
        faulty("n - 1 is 256", 3, 2, 0x3B, 0x30, 0, 1, 255);
        faulty("n - 1 is 65535: n is not 0", 3, 2, 0x3B, 0x30, 255, 255, 0);
        faulty("n 6 is right", 1, 8, 0x3A, 0x30, 0, 0, 6, 0, 0, 0);
        faulty("n - 1 of 5 is right", 1, 5, 0x3B, 0x30, 5, 0, 63);
    }

    private static void fault4() {
        due.says("Terms", "4 a bit of RUNS over n is not 0 (its byte);");
        for (int n = 1; n <= 6; n++) {
            for (int bit = n; bit < 8; bit++) {
                faulty("n " + n + ", bit " + bit, 4, 4, 0x3B, 0x30, n - 1, 0, 1 << bit, 1, 0, 0, 0);
            }
            faulty("n " + n + ", all bits of it", 1, 5, 0x3B, 0x30, n - 1, 0, (1 << n) - 1);
        }
    }

    private static void fault5() {
        due.says("Terms", "5 a KEY is not above the one ahead;");
        faulty("the same", 5, 9, 0x3B, 0x30, 1, 0, 3, 7, 0, 0, 0, 7, 0, 0, 0);
        faulty("one below", 5, 9, 0x3B, 0x30, 1, 0, 3, 7, 0, 0, 0, 6, 0, 0, 0);
        faulty("0 behind 65535", 5, 9, 0x3B, 0x30, 1, 0, 3, 255, 255, 0, 0, 0, 0, 0, 0);
        faulty("32767 behind 32768", 5, 9, 0x3B, 0x30, 1, 0, 3, 0, 128, 0, 0, 255, 127, 0, 0);
        faulty("1 behind 256: the lowest byte is first", 5, 12,
            0x3A, 0x30, 0, 0, 2, 0, 0, 0, 0, 1, 0, 0, 1, 0, 0, 0);
        faulty("the sixth", 5, 25,
            0x3B, 0x30, 5, 0, 63, 1, 0, 0, 0, 2, 0, 0, 0, 3, 0, 0, 0, 4, 0, 0, 0, 5, 0, 0, 0, 5, 0);
        faulty("the first has none ahead: KEY 0 is right", 1, 9, 0x3B, 0x30, 0, 0, 1, 0, 0, 0, 0);
        Index x = sound("32768 behind 32767, 65535 last", 3,
            0x3B, 0x30, 2, 0, 0, 255, 127, 0, 0, 0, 128, 0, 0, 255, 255, 0, 0, 1, 0, 2, 0, 3, 0);
        due.is("the last", x.select(5, 2), 4294901763L);
    }

    private static void fault6() {
        due.says("Terms", "6 the place told of a CONTAINER is not where it begins (asked as it begins; "
            + "the place of those 4 bytes);");
        faulty("one too far", 6, 12, 0x3A, 0x30, 0, 0, 1, 0, 0, 0, 0, 0, 0, 0, 17, 0, 0, 0, 5, 0);
        faulty("one too near", 6, 12, 0x3A, 0x30, 0, 0, 1, 0, 0, 0, 0, 0, 0, 0, 15, 0, 0, 0, 5, 0);
        faulty("0", 6, 12, 0x3A, 0x30, 0, 0, 1, 0, 0, 0, 0, 0, 0, 0, 0, 0, 0, 0, 5, 0);
        for (int k = 1; k < 4; k++) {
            int[] bytes = {0x3A, 0x30, 0, 0, 1, 0, 0, 0, 0, 0, 0, 0, 16, 0, 0, 0, 5, 0};
            bytes[12 + k] = k == 3 ? 128 : 1;
            faulty("its byte " + k, 6, 12, bytes);
        }
        faulty("asked as it begins, though no byte of it is there", 6, 12,
            0x3A, 0x30, 0, 0, 1, 0, 0, 0, 0, 0, 0, 0, 15, 0, 0, 0);
        faulty("where it begins, and no byte of it is there", 1, 16,
            0x3A, 0x30, 0, 0, 1, 0, 0, 0, 0, 0, 0, 0, 16, 0, 0, 0);
        faulty("the second is asked behind the first", 6, 20,
            0x3A, 0x30, 0, 0, 2, 0, 0, 0, 0, 0, 0, 0, 1, 0, 0, 0, 24, 0, 0, 0, 24, 0, 0, 0, 5, 0, 5, 0);
        faulty("the first of them turned", 6, 16,
            0x3A, 0x30, 0, 0, 2, 0, 0, 0, 0, 0, 0, 0, 1, 0, 0, 0, 26, 0, 0, 0, 24, 0, 0, 0, 5, 0, 5, 0);
        faulty("the fourth by 12347", 6, 33,
            0x3B, 0x30, 3, 0, 0, 0, 0, 0, 0, 1, 0, 0, 0, 2, 0, 0, 0, 3, 0, 0, 0,
            37, 0, 0, 0, 39, 0, 0, 0, 41, 0, 0, 0, 44, 0, 0, 0, 1, 0, 2, 0, 3, 0, 4, 0);
        sound("four by 12347", 4,
            0x3B, 0x30, 3, 0, 0, 0, 0, 0, 0, 1, 0, 0, 0, 2, 0, 0, 0, 3, 0, 0, 0,
            37, 0, 0, 0, 39, 0, 0, 0, 41, 0, 0, 0, 43, 0, 0, 0, 1, 0, 2, 0, 3, 0, 4, 0);
    }

    private static void fault7OfAnArray() {
        due.says("Terms", "7 a LOW of an ARRAY is not above the one ahead (that LOW),");
        faulty("the same", 7, 18, 0x3A, 0x30, 0, 0, 1, 0, 0, 0, 0, 0, 1, 0, 16, 0, 0, 0, 5, 0, 5, 0);
        faulty("one below", 7, 18, 0x3A, 0x30, 0, 0, 1, 0, 0, 0, 0, 0, 1, 0, 16, 0, 0, 0, 5, 0, 4, 0);
        faulty("0 behind 65535", 7, 18, 0x3A, 0x30, 0, 0, 1, 0, 0, 0, 0, 0, 1, 0, 16, 0, 0, 0, 255, 255, 0, 0);
        faulty("0 behind 0", 7, 18, 0x3A, 0x30, 0, 0, 1, 0, 0, 0, 0, 0, 1, 0, 16, 0, 0, 0, 0, 0, 0, 0);
        faulty("the last of three", 7, 20,
            0x3A, 0x30, 0, 0, 1, 0, 0, 0, 0, 0, 2, 0, 16, 0, 0, 0, 0, 0, 5, 1, 6, 0);
        faulty("1 behind 256: the lowest byte is first", 7, 18,
            0x3A, 0x30, 0, 0, 1, 0, 0, 0, 0, 0, 1, 0, 16, 0, 0, 0, 0, 1, 1, 0);
        sound("0 and 65535", 2, 0x3A, 0x30, 0, 0, 1, 0, 0, 0, 0, 0, 1, 0, 16, 0, 0, 0, 0, 0, 255, 255);
        sound("one above", 2, 0x3A, 0x30, 0, 0, 1, 0, 0, 0, 0, 0, 1, 0, 16, 0, 0, 0, 5, 0, 6, 0);
        Index x = sound("the first of the next CONTAINER has none ahead", 2,
            0x3A, 0x30, 0, 0, 2, 0, 0, 0, 0, 0, 0, 0, 1, 0, 0, 0, 24, 0, 0, 0, 26, 0, 0, 0, 9, 0, 0, 0);
        due.is("LOW 0 of it", x.has(5, 65536), 1);
    }

    private static void fault7OfRuns() {
        due.says("Terms", "a RUN's first LOW is not 2 or more above the last one of the RUN ahead, or the RUN goes beyond "
            + "65535 (its first LOW; asked when both numbers of it are read);");
        faulty("one above", 7, 15, 0x3B, 0x30, 0, 0, 1, 0, 0, 3, 0, 2, 0, 5, 0, 1, 0, 7, 0, 1, 0);
        faulty("the last one itself", 7, 15, 0x3B, 0x30, 0, 0, 1, 0, 0, 3, 0, 2, 0, 5, 0, 1, 0, 6, 0, 1, 0);
        faulty("the first one again", 7, 15, 0x3B, 0x30, 0, 0, 1, 0, 0, 3, 0, 2, 0, 5, 0, 1, 0, 5, 0, 1, 0);
        faulty("below", 7, 15, 0x3B, 0x30, 0, 0, 1, 0, 0, 3, 0, 2, 0, 5, 0, 1, 0, 0, 0, 0, 0);
        sound("two above", 4, 0x3B, 0x30, 0, 0, 1, 0, 0, 3, 0, 2, 0, 5, 0, 1, 0, 8, 0, 1, 0);
        faulty("behind 65535 there is none", 7, 15,
            0x3B, 0x30, 0, 0, 1, 0, 0, 1, 0, 2, 0, 255, 255, 0, 0, 0, 0, 0, 0);
        faulty("nor 65535 again", 7, 15, 0x3B, 0x30, 0, 0, 1, 0, 0, 1, 0, 2, 0, 255, 255, 0, 0, 255, 255, 0, 0);
        faulty("65535 and one more", 7, 11, 0x3B, 0x30, 0, 0, 1, 0, 0, 0, 0, 1, 0, 255, 255, 1, 0);
        faulty("1 and 65535 more", 7, 11, 0x3B, 0x30, 0, 0, 1, 0, 0, 255, 255, 1, 0, 1, 0, 255, 255);
        faulty("65535 and 65535 more", 7, 11, 0x3B, 0x30, 0, 0, 1, 0, 0, 255, 255, 1, 0, 255, 255, 255, 255);
        sound("0 and 65535 more", 65536, 0x3B, 0x30, 0, 0, 1, 0, 0, 255, 255, 1, 0, 0, 0, 255, 255);
        sound("65535 and none more", 1, 0x3B, 0x30, 0, 0, 1, 0, 0, 0, 0, 1, 0, 255, 255, 0, 0);
        sound("0, then 2 to 65535", 65535, 0x3B, 0x30, 0, 0, 1, 0, 0, 254, 255, 2, 0, 0, 0, 0, 0, 2, 0, 253, 255);
        faulty("asked when both are read: the end is ahead of it", 1, 18,
            0x3B, 0x30, 0, 0, 1, 0, 0, 3, 0, 2, 0, 5, 0, 1, 0, 5, 0, 1);
        sound("the first of the next CONTAINER has none ahead", 2,
            0x3B, 0x30, 1, 0, 3, 0, 0, 0, 0, 1, 0, 0, 0, 1, 0, 9, 0, 0, 0, 1, 0, 0, 0, 0, 0);
    }

    private static void fault8OfRuns() {
        due.says("Terms", "8 a BITMAP, RUNS have not as many NUMBERS as told (the place behind them);");
        faulty("one fewer", 8, 15, 0x3B, 0x30, 0, 0, 1, 0, 0, 2, 0, 1, 0, 5, 0, 1, 0);
        faulty("one more", 8, 15, 0x3B, 0x30, 0, 0, 1, 0, 0, 0, 0, 1, 0, 5, 0, 1, 0);
        faulty("no RUN", 8, 11, 0x3B, 0x30, 0, 0, 1, 0, 0, 0, 0, 0, 0);
        faulty("no RUN, 65536 told", 8, 11, 0x3B, 0x30, 0, 0, 1, 0, 0, 255, 255, 0, 0);
        faulty("1 told, 65536 there", 8, 15, 0x3B, 0x30, 0, 0, 1, 0, 0, 0, 0, 1, 0, 0, 0, 255, 255);
        faulty("ahead of FAULT 9", 8, 15, 0x3B, 0x30, 0, 0, 1, 0, 0, 2, 0, 1, 0, 5, 0, 1, 0, 9);
        faulty("of the first of two", 8, 19,
            0x3B, 0x30, 1, 0, 3, 0, 0, 1, 0, 1, 0, 1, 0, 1, 0, 5, 0, 0, 0, 1, 0, 5, 0, 0, 0);
    }

    private static void fault8OfABitmap() {
        due.says("Terms", "8 a BITMAP, RUNS have not as many NUMBERS as told (the place behind them);");
        sound("a BITMAP of 4097", bitmapOf(4097), 4097);
        Index x = bitmapOf(4097);
        x.alter(16, 254);
        faulty("one fewer", x, 8, BITMAP_END);
        x.alter(16, 255);
        x.alter(BITMAP_END - 1, 128);
        faulty("one more", x, 8, BITMAP_END);
        x.alter(16, 254);
        sound("another one", x, 4097);
        x = bitmapOf(65536);
        x.alter(10, 254);
        faulty("65536, one fewer told", x, 8, BITMAP_END);
        x.alter(10, 255);
        sound("65536", x, 65536);
        x.alter(BITMAP_END - 1, 127);
        x.type(0, 1);
        faulty("ahead of FAULT 9", x, 8, BITMAP_END);
    }

    private static void fault9() {
        due.says("Terms", "9 bytes come behind the last one (the first of these).");
        faulty("one behind n 0", 9, 8, 0x3A, 0x30, 0, 0, 0, 0, 0, 0, 0);
        faulty("a whole one behind n 0", 9, 8, 0x3A, 0x30, 0, 0, 0, 0, 0, 0, 0x3A, 0x30, 0, 0, 0, 0, 0, 0);
        faulty("one behind an ARRAY", 9, 18, 0x3A, 0x30, 0, 0, 1, 0, 0, 0, 0, 0, 0, 0, 16, 0, 0, 0, 5, 0, 6);
        faulty("two behind an ARRAY", 9, 18, 0x3A, 0x30, 0, 0, 1, 0, 0, 0, 0, 0, 0, 0, 16, 0, 0, 0, 5, 0, 6, 0);
        faulty("one behind RUNS", 9, 15, 0x3B, 0x30, 0, 0, 1, 0, 0, 1, 0, 1, 0, 5, 0, 1, 0, 9);
        Index x = bitmapOf(5000);
        x.type(0, 1);
        faulty("one behind a BITMAP", x, 9, BITMAP_END);
        Index y = new CountedIndex();
        Made.longSet(y, 0);
        y.write(0);
        y.type(0, 1);
        faulty("the last of 60000", y, 9, 59999);
    }

    private static void arrayOrBitmapByTheHead() {
        due.says("Terms", "An ARRAY is what has 4096 NUMBERS or fewer by its head and no bit of RUNS, a BITMAP more.");
        Index x = new CountedIndex();
        x.range(5, 3, 0, 9, 0);
        x.steps(0, 0, 15, 16);
        x.write(0);
        sound("4096, an ARRAY", x, 4096);
        due.is("its KIND", x.container(5, 0, 1), 0);
        x.alter(11, 16);
        x.alter(10, 0);
        due.is("its bytes are 4097 by the head: a BITMAP that has too many", x.read(5), -100 - BITMAP_END);
        due.is("FAULT 8", x.fault(), 8);
        x = bitmapOf(4097);
        sound("4097, a BITMAP", x, 4097);
        due.is("its KIND", x.container(5, 0, 1), 1);
        x.alter(11, 15);
        x.alter(10, 255);
        faulty("4096 by the head: an ARRAY, whose second LOW is not above", x, 7, 18);
        x = sound("65536 by the head with a bit of RUNS", 65536,
            0x3B, 0x30, 0, 0, 1, 0, 0, 255, 255, 1, 0, 0, 0, 255, 255);
        due.is("its KIND", x.container(5, 0, 1), 2);
        x = sound("1 by the head with a bit of RUNS", 1, 0x3B, 0x30, 0, 0, 1, 0, 0, 0, 0, 1, 0, 7, 0, 0, 0);
        due.is("its KIND", x.container(5, 0, 1), 2);
        x = sound("12347 with no bit of RUNS", 2, 0x3B, 0x30, 1, 0, 0, 1, 0, 0, 0, 2, 0, 0, 0, 7, 0, 8, 0);
        due.is("both are ARRAYS", x.count(5, 2), 2);
        due.is("the second", x.select(5, 1), 2L * 65536 + 8);
    }

    private static void theHeadFirst() {
        due.says("Terms", "All of the head is read ahead of the first CONTAINER.");
        faulty("the end of the head is ahead of a place that is wrong", 1, 20,
            0x3A, 0x30, 0, 0, 2, 0, 0, 0, 0, 0, 0, 0, 1, 0, 0, 0, 99, 0, 0, 0);
        faulty("a KEY is ahead of the end of the places", 5, 12,
            0x3A, 0x30, 0, 0, 2, 0, 0, 0, 1, 0, 0, 0, 1, 0, 0, 0, 24, 0);
        faulty("the last KEY is ahead of the first RUNS", 5, 13,
            0x3B, 0x30, 2, 0, 7, 1, 0, 0, 0, 2, 0, 0, 0, 2, 0, 0, 0, 0, 0);
    }

    private static void nothingWithN0() {
        due.says("Terms", "With n 0 (by 12346) that is all.");
        Index x = sound("n 0", 0, 0x3A, 0x30, 0, 0, 0, 0, 0, 0);
        due.is("the SET is empty", x.count(5, 1), 0);
        faulty("n - 1 of 65535 is not n 0", 3, 2, 0x3B, 0x30, 255, 255);
    }

    private static void kindsAsRead() {
        due.says("Terms", "KINDS are as read.");
        Index x = sound("RUNS that are longer than an ARRAY", 2,
            0x3B, 0x30, 0, 0, 1, 0, 0, 1, 0, 2, 0, 5, 0, 0, 0, 9, 0, 0, 0);
        due.is("RUNS", x.container(5, 0, 1), 2);
        due.is("two of them", x.container(5, 0, 3), 2);
        due.is("written so", x.write(5), 19);
        due.is("an ARRAY that would be shorter as RUNS", x.range(0, 0, 0, 99, 0), 100);
        x.write(0);
        x.read(5);
        due.is("ARRAY", x.container(5, 0, 1), 0);
        x = bitmapOf(65536);
        x.read(5);
        due.is("a BITMAP that would be shorter as RUNS", x.container(5, 0, 1), 1);
        x.range(1, 0, 0, 9, 0);
        x.range(1, 1, 0, 65535, 0);
        x.shrink(1);
        x.steps(1, 2, 0, 2);
        x.steps(1, 3, 0, 100);
        x.write(1);
        sound("all three", x, 10 + 65536 + 32768 + 656);
        int[] kinds = {2, 2, 1, 0};
        for (int k = 0; k < 4; k++) {
            due.is("KIND of " + k, x.container(5, k, 1), kinds[k]);
        }
    }

    // ---- Promises 18 and 19

    private static void promise18() {
        due.says("Promise 18", "THE BYTES are read into a SET: how many NUMBERS; -100 less the place of the FAULT: "
            + "the SET stays.");
        Index x = new CountedIndex();
        Made.six(x, 0);
        x.range(1, 100, 0, 9, 0);
        x.write(0);
        due.is("six into one that had others", x.read(1), 6);
        due.is("the others are gone", x.compare(0, 1), 2);
        due.is("into itself", x.read(0), 6);
        due.is("the same", x.compare(0, 1), 2);
        x.write(7);
        due.is("an empty one", x.read(1), 0);
        due.is("it is empty", x.count(1, 1), 0);
        x.add(0, (5 << 16) + 1);
        x.shrink(0);
        x.write(0);
        x.alter(x.size() - 2, 0);
        due.is("a FAULT behind five that are right", x.read(0), -100 - (x.size() - 2));
        Watch watch = new Watch(due, x);
        watch.refusedFor(1, "the SET stays", x.read(0), -100 - (x.size() - 2));
        x.cut(0);
        due.is("place 0", x.read(0), -100);
        Index y = new CountedIndex();
        Made.longSet(y, 0);
        y.write(0);
        due.is("as many bytes as can be", y.read(1), 1303 + 2 * 4095 + 3 * 32768);
        due.is("the same", y.compare(0, 1), 2);
        y.alter(59998, 0);
        due.is("the greatest place behind a CONTAINER", y.read(1), -100 - 59999);
        due.is("the SET stays", y.compare(0, 1), 2);
        readBadOrSpent();
    }

    private static void readBadOrSpent() {
        due.says("Promise 18", "BAD; SPENT.");
        Index x = new CountedIndex();
        x.range(0, 0, 0, 9, 0);
        x.write(7);
        Watch watch = new Watch(due, x);
        watch.refused("read(-1)", x.read(-1), BAD);
        watch.refused("read(8)", x.read(8), BAD);
        Made.workDownTo(x, 1);
        due.is("the last WORK", x.read(1), 0);
        watch.anew();
        watch.refused("SPENT", x.read(0), SPENT);
        watch.refused("BAD is ahead of SPENT", x.read(8), BAD);
        x.alter(0, 0);
        watch.anew();
        watch.refused("SPENT is ahead of a FAULT", x.read(0), SPENT);
    }

    private static void promise19() {
        due.says("Promise 19",
            "The number of the FAULT of the latest read() that was not BAD, SPENT; 0: none, or before any.");
        Index x = new CountedIndex();
        due.is("before any", x.fault(), 0);
        due.is("BAD, before any", x.read(8), BAD);
        due.is("before any still", x.fault(), 0);
        due.is("a FAULT", x.read(0), -100);
        due.is("1", x.fault(), 1);
        due.is("asked twice", x.fault(), 1);
        due.is("BAD", x.read(-1), BAD);
        due.is("1 still", x.fault(), 1);
        x.write(0);
        due.is("a write leaves it", x.fault(), 1);
        due.is("none", x.read(0), 0);
        due.is("0", x.fault(), 0);
        x.type(0, 1);
        due.is("a FAULT", x.read(0), -108);
        due.is("9", x.fault(), 9);
        x.alter(0, 0);
        due.is("another", x.read(0), -100);
        due.is("2", x.fault(), 2);
        Made.workDownTo(x, 0);
        x.write(0);
        due.is("SPENT", x.read(0), SPENT);
        due.is("2 still", x.fault(), 2);
        Index y = new CountedIndex();
        y.write(0);
        y.read(0);
        Made.workDownTo(y, 0);
        y.cut(0);
        due.is("SPENT", y.read(0), SPENT);
        due.is("0 still", y.fault(), 0);
    }
}

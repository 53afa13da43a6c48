import java.util.Arrays;

/** Promises 18 and 19: each of the faults 1 to 9 with its place, and which of two is met first. */
public final class FaultsTest {
    private static final Due due = new Due("FaultsTest");

    public static void main(String[] args) {
        theEnd();
        theEndOfEachKind();
        noMark();
        tooMany();
        bitsOver();
        keyOrder();
        wrongPlace();
        lowOrder();
        runOrder();
        wrongTotal();
        leftOver();
        everyPrefix();
        due.end();
    }

    private static void theEnd() {
        due("no bytes", 1, 0);
        due("one byte", 1, 1, 0x3A);
        due("no mark in three bytes is the end", 1, 3, 9, 9, 9);
        due("12347 in two bytes", 1, 2, 0x3B, 0x30);
        due("12346, then nothing", 1, 4, 0x3A, 0x30, 0, 0);
        due("n in part", 1, 7, 0x3A, 0x30, 0, 0, 9, 9, 9);
        due("no bits", 1, 4, 0x3B, 0x30, 0, 0);
        due("no key", 1, 5, 0x3B, 0x30, 0, 0, 1);
        due("half a key", 1, 6, 0x3B, 0x30, 0, 0, 1, 0);
        due("no total", 1, 7, 0x3B, 0x30, 0, 0, 1, 0, 0);
        due("half a place", 1, 14, 0x3A, 0x30, 0, 0, 1, 0, 0, 0, 0, 0, 0, 0, 9, 9);
        due("four have places", 1, 21, 0x3B, 0x30, 3, 0, 15, 0, 0, 0, 0, 1, 0, 0, 0, 2, 0, 0, 0, 3, 0, 0, 0);
    }

    private static void theEndOfEachKind() {
        due("an array", 1, 18, 0x3A, 0x30, 0, 0, 1, 0, 0, 0, 0, 0, 1, 0, 16, 0, 0, 0, 5, 0);
        due("an array, half a low", 1, 19, 0x3A, 0x30, 0, 0, 1, 0, 0, 0, 0, 0, 1, 0, 16, 0, 0, 0, 5, 0, 4);
        due("a bitmap", 1, 18, 0x3A, 0x30, 0, 0, 1, 0, 0, 0, 0, 0, 0, 16, 16, 0, 0, 0, 5, 0);
        due("no number of runs", 1, 10, 0x3B, 0x30, 0, 0, 1, 0, 0, 0, 0, 9);
        due("no run", 1, 11, 0x3B, 0x30, 0, 0, 1, 0, 0, 0, 0, 1, 0);
        due("half a run", 1, 14, 0x3B, 0x30, 0, 0, 1, 0, 0, 0, 0, 1, 0, 5, 0, 0);
        due("a run that is wrong in part", 1, 18,
            0x3B, 0x30, 0, 0, 1, 0, 0, 0, 0, 2, 0, 5, 0, 0, 0, 5, 0, 0);
    }

    private static void noMark() {
        due("12345", 2, 0, 0x39, 0x30, 0, 0);
        due("12346 and more", 2, 0, 0x3A, 0x30, 1, 0, 0, 0, 0, 0);
        due("12346 and more above", 2, 0, 0x3A, 0x30, 0, 1, 0, 0, 0, 0);
        due("turned", 2, 0, 0, 0, 0x30, 0x3A);
        due("0", 2, 0, 0, 0, 0, 0);
    }

    private static void tooMany() {
        due("n 7", 3, 4, 0x3A, 0x30, 0, 0, 7, 0, 0, 0);
        due("n -1", 3, 4, 0x3A, 0x30, 0, 0, 255, 255, 255, 255);
        due("n 1 << 24", 3, 4, 0x3A, 0x30, 0, 0, 0, 0, 0, 1);
        due("n - 1 is 6", 3, 2, 0x3B, 0x30, 6, 0);
        due("n - 1 is 65535", 3, 2, 0x3B, 0x30, 255, 255);
        due("n - 1 is 256", 3, 2, 0x3B, 0x30, 0, 1, 255);
        due("n 6 is not", 1, 8, 0x3A, 0x30, 0, 0, 6, 0, 0, 0);
        due("n - 1 of 5 is not", 1, 5, 0x3B, 0x30, 5, 0, 63);
    }

    private static void bitsOver() {
        due("a second bit of one", 4, 4, 0x3B, 0x30, 0, 0, 2);
        due("a bit 7 of six", 4, 4, 0x3B, 0x30, 5, 0, 128);
        due("a bit 6 of six", 4, 4, 0x3B, 0x30, 5, 0, 64 + 63, 1, 0);
    }

    private static void keyOrder() {
        due("the same key", 5, 9, 0x3B, 0x30, 1, 0, 3, 7, 0, 0, 0, 7, 0);
        due("a key below", 5, 12, 0x3A, 0x30, 0, 0, 2, 0, 0, 0, 0, 1, 0, 0, 255, 0, 0, 0);
        due("the third", 5, 13, 0x3B, 0x30, 2, 0, 7, 1, 0, 0, 0, 3, 0, 0, 0, 2, 0, 0, 0);
        due("key 0 at first is none", 1, 9, 0x3B, 0x30, 0, 0, 1, 0, 0, 0, 0);
    }

    private static void wrongPlace() {
        due("one too far", 6, 12, 0x3A, 0x30, 0, 0, 1, 0, 0, 0, 0, 0, 0, 0, 17, 0, 0, 0, 5, 0);
        due("asked ahead of its bytes", 6, 12, 0x3A, 0x30, 0, 0, 1, 0, 0, 0, 0, 0, 0, 0, 15, 0, 0, 0);
        due("its highest byte", 6, 12, 0x3A, 0x30, 0, 0, 1, 0, 0, 0, 0, 0, 0, 0, 16, 0, 0, 128, 5, 0);
        due("the second one", 6, 20,
            0x3A, 0x30, 0, 0, 2, 0, 0, 0, 0, 0, 0, 0, 1, 0, 0, 0, 24, 0, 0, 0, 28, 0, 0, 0, 5, 0, 5, 0);
        due("the second one, but the first has a fault", 7, 26,
            0x3A, 0x30, 0, 0, 2, 0, 0, 0, 0, 0, 1, 0, 1, 0, 0, 0, 24, 0, 0, 0, 99, 0, 0, 0, 5, 0, 5, 0, 5, 0);
        due("the head ends ahead of it", 1, 20,
            0x3A, 0x30, 0, 0, 2, 0, 0, 0, 0, 0, 0, 0, 1, 0, 0, 0, 99, 0, 0, 0);
    }

    private static void lowOrder() {
        due("the same low", 7, 18, 0x3A, 0x30, 0, 0, 1, 0, 0, 0, 0, 0, 1, 0, 16, 0, 0, 0, 5, 0, 5, 0);
        due("a low below", 7, 20, 0x3A, 0x30, 0, 0, 1, 0, 0, 0, 0, 0, 2, 0, 16, 0, 0, 0, 0, 0, 5, 1, 6, 0);
        due("ahead of the end", 7, 18, 0x3A, 0x30, 0, 0, 1, 0, 0, 0, 0, 0, 9, 0, 16, 0, 0, 0, 5, 0, 4, 0);
        due("low 0 at first is none", 0, 1, 0x3A, 0x30, 0, 0, 1, 0, 0, 0, 0, 0, 0, 0, 16, 0, 0, 0, 0, 0);
    }

    private static void runOrder() {
        due("next to the one ahead", 7, 15, 0x3B, 0x30, 0, 0, 1, 0, 0, 3, 0, 2, 0, 5, 0, 1, 0, 7, 0, 1, 0);
        due("two above it", 0, 4, 0x3B, 0x30, 0, 0, 1, 0, 0, 3, 0, 2, 0, 5, 0, 1, 0, 8, 0, 1, 0);
        due("in it", 7, 15, 0x3B, 0x30, 0, 0, 1, 0, 0, 3, 0, 2, 0, 5, 0, 1, 0, 6, 0, 1, 0);
        due("beyond 65535", 7, 11, 0x3B, 0x30, 0, 0, 1, 0, 0, 0, 0, 1, 0, 255, 255, 1, 0);
        due("far beyond", 7, 11, 0x3B, 0x30, 0, 0, 1, 0, 0, 0, 0, 1, 0, 255, 255, 255, 255);
        due("up to 65535", 0, 65536, 0x3B, 0x30, 0, 0, 1, 0, 0, 255, 255, 1, 0, 0, 0, 255, 255);
        due("behind 65535", 7, 15, 0x3B, 0x30, 0, 0, 1, 0, 0, 1, 0, 2, 0, 255, 255, 0, 0, 0, 0, 0, 0);
        due("ahead of the end", 7, 15, 0x3B, 0x30, 0, 0, 1, 0, 0, 3, 0, 9, 0, 5, 0, 1, 0, 7, 0, 1, 0);
    }

    private static void wrongTotal() {
        due("runs have less", 8, 15, 0x3B, 0x30, 0, 0, 1, 0, 0, 2, 0, 1, 0, 5, 0, 1, 0);
        due("runs have more", 8, 15, 0x3B, 0x30, 0, 0, 1, 0, 0, 0, 0, 1, 0, 5, 0, 1, 0);
        due("no runs", 8, 11, 0x3B, 0x30, 0, 0, 1, 0, 0, 0, 0, 0, 0);
        due("no runs, and more behind", 8, 11, 0x3B, 0x30, 0, 0, 1, 0, 0, 0, 0, 0, 0, 9, 9);
        int[] bitmap = bitmapOf(4097);
        due("a bitmap of 4097", 0, 4097, bitmap);
        int[] less = bitmap.clone();
        less[16] = 254;
        due("a bitmap with one less", 8, 16 + 8192, less);
        int[] more = bitmap.clone();
        more[16 + 8191] = 128;
        due("a bitmap with one more", 8, 16 + 8192, more);
        due("a bitmap in part", 1, 16 + 8191, Arrays.copyOf(less, 16 + 8191));
    }

    private static void leftOver() {
        due("behind none", 9, 8, 0x3A, 0x30, 0, 0, 0, 0, 0, 0, 0);
        due("behind an array", 9, 18, 0x3A, 0x30, 0, 0, 1, 0, 0, 0, 0, 0, 0, 0, 16, 0, 0, 0, 5, 0, 6, 0);
        due("behind runs", 9, 15, 0x3B, 0x30, 0, 0, 1, 0, 0, 1, 0, 1, 0, 5, 0, 1, 0, 9);
        due("behind a bitmap", 9, 16 + 8192, Arrays.copyOf(bitmapOf(5000), 16 + 8193));
    }

    /** Each beginning of what was written ends too early, just there. */
    private static void everyPrefix() {
        RoaringIndex x = new RoaringIndex();
        for (int k = 0; k < 5; k++) {
            x.range(0, 3 * k, 10, 10 + k, 0);
            x.range(0, 3 * k, 50, 51, 0);
        }
        x.shrink(0);
        int n = x.write(0);
        due.is("written", n, 5 + 40 + 6 + 8 + 10 + 10 + 10);
        for (int end = n - 1; end >= 0; end--) {
            x.cut(end);
            due.is("read of " + end, x.read(1), -100 - end);
            due.is("fault of " + end, x.fault(), 1);
        }
    }

    /** The lows 0 to n - 1. */
    private static int[] bitmapOf(int n) {
        int[] bytes = new int[16 + 8192];
        int[] head = {0x3A, 0x30, 0, 0, 1, 0, 0, 0, 0, 0, n - 1 & 255, n - 1 >> 8, 16, 0, 0, 0};
        System.arraycopy(head, 0, bytes, 0, 16);
        for (int low = 0; low < n; low++) {
            bytes[16 + low / 8] |= 1 << low % 8;
        }
        return bytes;
    }

    /** For fault 0, place is how many numbers there are. The set and the work are looked at too. */
    private static void due(String what, int fault, int place, int... bytes) {
        RoaringIndex x = new RoaringIndex();
        x.range(5, 3, 0, 9, 0);
        x.shrink(5);
        for (int b : bytes) {
            x.type(b, 1);
        }
        long before = x.digest();
        due.is(what + ": read", x.read(5), fault == 0 ? place : -100 - place);
        due.is(what + ": fault", x.fault(), fault);
        due.is(what + ": work", x.work(), 298);
        due.is(what + ": size", x.size(), bytes.length);
        if (fault != 0) {
            due.is(what + ": the set stays", x.digest(), before);
        } else {
            due.is(what + ": count", x.count(5, 0), place);
        }
    }
}

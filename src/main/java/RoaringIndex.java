import java.util.Arrays;

/**
 * Eight sets of numbers of 32 bits, kept as roaring bitmaps, and one row of bytes
 * in the portable form. What each call answers is told in the document, promise by promise.
 */
public final class RoaringIndex {
    public static final int NONE = -1, BAD = -2, FULL = -3, LONG = -4, SPENT = -5;

    private static final int SETS = 8;
    private static final int MOST_CONTAINERS = 6;
    private static final int MOST_BYTES = 60000;
    private static final int FIRST_BYTES = 1024;
    private static final int FIRST_WORK = 300;
    private static final int MOST_SIGNS = 8;
    private static final int MOST_PILED = 8;
    private static final int FAULT_BASE = -100;

    private static final int GREATEST = 65535;
    private static final int BEYOND = 65536;
    private static final int WORDS = 1024;
    private static final int BITMAP_BYTES = 8192;
    private static final int MOST_OF_ARRAY = 4096;

    private static final int ARRAY = 0, BITMAP = 1, RUNS = 2;
    private static final int COME = 0, GO = 1, FLIP = 2;
    private static final int AND = 0, OR = 1, XOR = 2, BUT = 3;
    private static final int FIRST_JOIN = 16, LAST_JOIN = 19, ALL = 20, IDLE = 255;

    private static final int PLAIN_MARK = 12346, RUNS_MARK = 12347;
    private static final int PLACES_FROM = 4;

    private static final int ENDED = 1, NO_MARK = 2, TOO_MANY = 3, BIT_OVER = 4, KEY_ORDER = 5,
            WRONG_PLACE = 6, LOW_ORDER = 7, WRONG_TOTAL = 8, LEFT_OVER = 9;

    private static final long[] NO_WORDS = {};

    private final NumberSet[] sets = new NumberSet[SETS];
    private final NumberSet spare = new NumberSet();
    private final Pile pile = new Pile();
    private final ByteRow bytes = new ByteRow();
    private final Reader reader = new Reader();
    private int workLeft = FIRST_WORK;

    public RoaringIndex() {
        for (int s = 0; s < SETS; s++) {
            sets[s] = new NumberSet();
        }
    }

    // ---- sets

    public int add(int set, int v) {
        return isNoSet(set) ? BAD : sets[set].changeSpan(keyOf(v), lowOf(v), lowOf(v), COME);
    }

    public int remove(int set, int v) {
        return isNoSet(set) ? BAD : sets[set].changeSpan(keyOf(v), lowOf(v), lowOf(v), GO);
    }

    public int range(int set, int key, int from, int to, int how) {
        if (isNoSet(set) || isNoHalf(key) || isNoHalf(from) || isNoHalf(to) || from > to) {
            return BAD;
        }
        if (how < COME || how > FLIP) {
            return BAD;
        }
        int answer = sets[set].changeSpan(key, from, to, how);
        return answer == FULL ? FULL : sets[set].total();
    }

    public int steps(int set, int key, int from, int step) {
        if (isNoSet(set) || isNoHalf(key) || isNoHalf(from) || isNoHalf(step) || step < 1) {
            return BAD;
        }
        int answer = sets[set].putSteps(key, from, step);
        return answer == FULL ? FULL : sets[set].total();
    }

    public int clear(int set) {
        if (isNoSet(set)) {
            return BAD;
        }
        int had = sets[set].total();
        sets[set].used = 0;
        return had;
    }

    public int join(int to, int what, int a, int b) {
        if (isNoSet(to) || isNoSet(a) || isNoSet(b) || what < AND || what > BUT) {
            return BAD;
        }
        if (!takeWork(1)) {
            return SPENT;
        }
        if (!spare.becomeJoin(what, sets[a], sets[b])) {
            return FULL;
        }
        sets[to].exchange(spare);
        return sets[to].total();
    }

    public int shrink(int set) {
        if (isNoSet(set)) {
            return BAD;
        }
        if (!takeWork(1)) {
            return SPENT;
        }
        sets[set].shrinkAll();
        return sets[set].totalOfKind(RUNS);
    }

    public int formula(int to, long signs, int n) {
        if (isNoSet(to) || !Pile.isSound(signs, n)) {
            return BAD;
        }
        if (!takeWork(n)) {
            return SPENT;
        }
        if (!pile.evaluate(signs, n, sets, spare)) {
            return FULL;
        }
        sets[to].exchange(pile.levels[0]);
        return sets[to].total();
    }

    // ---- asked

    public int has(int set, int v) {
        if (isNoSet(set)) {
            return BAD;
        }
        Container c = sets[set].find(keyOf(v));
        return c != null && c.holds(lowOf(v)) ? 1 : 0;
    }

    public int rank(int set, int v) {
        return isNoSet(set) ? BAD : sets[set].totalUpTo(keyOf(v), lowOf(v));
    }

    public long select(int set, int i) {
        return isNoSet(set) || i < 0 ? BAD : sets[set].numberAt(i);
    }

    public long next(int set, int v) {
        return isNoSet(set) ? BAD : sets[set].firstFrom(keyOf(v), lowOf(v));
    }

    public int count(int set, int what) {
        if (isNoSet(set)) {
            return BAD;
        }
        switch (what) {
            case 0: return sets[set].total();
            case 1: return sets[set].used;
            case 2: return sets[set].totalOfKind(ARRAY);
            case 3: return sets[set].totalOfKind(BITMAP);
            case 4: return sets[set].totalOfKind(RUNS);
            default: return BAD;
        }
    }

    public int container(int set, int k, int what) {
        if (isNoSet(set) || k < 0 || k >= sets[set].used) {
            return BAD;
        }
        Container c = sets[set].items[k];
        switch (what) {
            case 0: return c.key;
            case 1: return c.kind;
            case 2: return c.total;
            case 3: return c.totalRuns();
            default: return BAD;
        }
    }

    public int compare(int a, int b) {
        if (isNoSet(a) || isNoSet(b)) {
            return BAD;
        }
        boolean aInB = sets[a].isInside(sets[b]);
        boolean bInA = sets[b].isInside(sets[a]);
        if (aInB) {
            return bInA ? 2 : 3;
        }
        if (bInA) {
            return 4;
        }
        return sets[a].meets(sets[b]) ? 1 : 0;
    }

    // ---- bytes

    public int write(int set) {
        if (isNoSet(set)) {
            return BAD;
        }
        if (Writer.bytesOf(sets[set]) > MOST_BYTES) {
            return LONG;
        }
        bytes.used = 0;
        Writer.putSet(sets[set], bytes);
        return bytes.used;
    }

    public int read(int set) {
        if (isNoSet(set)) {
            return BAD;
        }
        if (!takeWork(1)) {
            return SPENT;
        }
        if (!reader.takeSet(bytes, spare)) {
            return FAULT_BASE - reader.faultPlace;
        }
        sets[set].exchange(spare);
        return sets[set].total();
    }

    public int fault() {
        return reader.faultNumber;
    }

    public int cut(int n) {
        if (n < 0 || n > bytes.used) {
            return BAD;
        }
        int gone = bytes.used - n;
        bytes.used = n;
        return gone;
    }

    public int type(long w, int m) {
        if (m < 0 || m > 8) {
            return BAD;
        }
        if (bytes.used + m > MOST_BYTES) {
            return LONG;
        }
        bytes.put(w, m);
        return bytes.used;
    }

    public int at(int i) {
        return bytes.lacks(i) ? BAD : bytes.byteAt(i);
    }

    public int alter(int i, int v) {
        if (bytes.lacks(i) || v < 0 || v > 255) {
            return BAD;
        }
        int was = bytes.byteAt(i);
        bytes.held[i] = (byte) v;
        return was;
    }

    public int work() {
        return workLeft;
    }

    public int size() {
        return bytes.used;
    }

    public long digest() {
        long h = 17;
        for (int s = 0; s < SETS; s++) {
            h = sets[s].digestSetFrom(h);
        }
        return h;
    }

    private static boolean isNoSet(int set) {
        return set < 0 || set >= SETS;
    }

    private static boolean isNoHalf(int half) {
        return half < 0 || half > GREATEST;
    }

    private static int keyOf(int v) {
        return v >>> 16;
    }

    private static int lowOf(int v) {
        return v & GREATEST;
    }

    private boolean takeWork(int amount) {
        if (amount > workLeft) {
            return false;
        }
        workLeft -= amount;
        return true;
    }

    /**
     * The numbers of one key. All kinds are held as 1024 words: the kind is only a mark,
     * as nothing but the bytes and the answers can tell it.
     */
    private static final class Container {
        int key;
        int kind;
        int total;
        /** Made when first needed and then kept, so that a new index is small. */
        long[] words = NO_WORDS;

        void makeRoom() {
            if (words.length < WORDS) {
                words = new long[WORDS];
            }
        }

        void begin(int newKey) {
            makeRoom();
            Arrays.fill(words, 0L);
            key = newKey;
            kind = ARRAY;
            total = 0;
        }

        void copyLowsOf(Container other) {
            makeRoom();
            System.arraycopy(other.words, 0, words, 0, WORDS);
            key = other.key;
            kind = other.kind;
            total = other.total;
        }

        void setPlainKind() {
            kind = total <= MOST_OF_ARRAY ? ARRAY : BITMAP;
        }

        void setSmallestKind() {
            int otherwise = total <= MOST_OF_ARRAY ? 2 * total : BITMAP_BYTES;
            if (2 + 4 * totalRuns() < otherwise) {
                kind = RUNS;
            } else {
                setPlainKind();
            }
        }

        boolean holds(int low) {
            return (words[low >> 6] >>> low & 1L) != 0;
        }

        /** Tells whether any low came or went; the kind is left to the caller. */
        boolean changeLows(int from, int to, int how) {
            boolean changed = false;
            int first = from >> 6;
            int last = to >> 6;
            for (int w = first; w <= last; w++) {
                long mask = w == first ? -1L << from : -1L;
                if (w == last) {
                    mask &= upTo(to);
                }
                long old = words[w];
                long now = how == COME ? old | mask : how == GO ? old & ~mask : old ^ mask;
                words[w] = now;
                total += Long.bitCount(now) - Long.bitCount(old);
                changed |= now != old;
            }
            return changed;
        }

        boolean putLowsBySteps(int from, int step) {
            if (step < 1) {
                return false;
            }
            int before = total;
            for (int low = from; low <= GREATEST; low += step) {
                if (!holds(low)) {
                    words[low >> 6] |= 1L << low;
                    total++;
                }
            }
            return total != before;
        }

        /** Becomes what a and b, of one key, have together; it may be left without a low. */
        void becomeMix(int what, Container a, Container b) {
            makeRoom();
            key = a.key;
            total = 0;
            for (int w = 0; w < WORDS; w++) {
                long mixed = mix(what, a.words[w], b.words[w]);
                words[w] = mixed;
                total += Long.bitCount(mixed);
            }
            if (hasLowsOf(a)) {
                kind = a.kind;
            } else if (hasLowsOf(b)) {
                kind = b.kind;
            } else {
                setPlainKind();
            }
        }

        boolean hasLowsOf(Container other) {
            return total == other.total && hasNoLowBut(other);
        }

        boolean hasNoLowBut(Container other) {
            for (int w = 0; w < WORDS; w++) {
                if ((words[w] & ~other.words[w]) != 0) {
                    return false;
                }
            }
            return true;
        }

        boolean hasLowIn(Container other) {
            for (int w = 0; w < WORDS; w++) {
                if ((words[w] & other.words[w]) != 0) {
                    return true;
                }
            }
            return false;
        }

        int totalRuns() {
            int runs = 0;
            long carried = 0;
            for (int w = 0; w < WORDS; w++) {
                long word = words[w];
                runs += Long.bitCount(word & ~(word << 1 | carried));
                carried = word >>> 63;
            }
            return runs;
        }

        int lowsUpTo(int low) {
            int last = low >> 6;
            int found = Long.bitCount(words[last] & upTo(low));
            for (int w = 0; w < last; w++) {
                found += Long.bitCount(words[w]);
            }
            return found;
        }

        int lowAt(int i) {
            int ahead = i;
            for (int w = 0; w < WORDS; w++) {
                long word = words[w];
                int here = Long.bitCount(word);
                if (ahead < here) {
                    for (int k = 0; k < ahead; k++) {
                        word &= word - 1;
                    }
                    return (w << 6) + Long.numberOfTrailingZeros(word);
                }
                ahead -= here;
            }
            return NONE;
        }

        /** The least low that is here, from one on; BEYOND if there is none. */
        int firstIn(int low) {
            return firstBit(low, 0L);
        }

        /** The least low that is not here, from one on; BEYOND if there is none. */
        int firstOut(int low) {
            return firstBit(low, -1L);
        }

        private int firstBit(int low, long flips) {
            int first = low >> 6;
            for (int w = first; w < WORDS; w++) {
                long word = words[w] ^ flips;
                if (w == first) {
                    word &= -1L << low;
                }
                if (word != 0) {
                    return (w << 6) + Long.numberOfTrailingZeros(word);
                }
            }
            return BEYOND;
        }

        long digestFrom(long start) {
            long h = 31 * start + key;
            h = 31 * h + kind;
            h = 31 * h + total;
            h = 31 * h + totalRuns();
            for (int w = 0; w < WORDS; w++) {
                h = 31 * h + words[w];
            }
            return h;
        }

        private static long mix(int what, long a, long b) {
            switch (what) {
                case AND: return a & b;
                case OR: return a | b;
                case XOR: return a ^ b;
                default: return a & ~b;
            }
        }

        /** The bits of a low's word up to that low. */
        private static long upTo(int low) {
            return -1L >>> (63 - (low & 63));
        }
    }

    /** Up to six containers, by rising keys; those from used on are kept for later use. */
    private static final class NumberSet {
        /** One more than a set may have, so that a join can find out that it has too many. */
        Container[] items = new Container[MOST_CONTAINERS + 1];
        int used;

        NumberSet() {
            for (int i = 0; i < items.length; i++) {
                items[i] = new Container();
            }
        }

        void exchange(NumberSet other) {
            Container[] otherItems = other.items;
            int otherUsed = other.used;
            other.items = items;
            other.used = used;
            items = otherItems;
            used = otherUsed;
        }

        void copyFrom(NumberSet other) {
            used = other.used;
            for (int i = 0; i < used; i++) {
                items[i].copyLowsOf(other.items[i]);
            }
        }

        int keyAt(int i) {
            return i < used ? items[i].key : BEYOND;
        }

        /** Where a key is, or would come in. */
        int indexOf(int key) {
            int i = 0;
            while (i < used && items[i].key < key) {
                i++;
            }
            return i;
        }

        Container find(int key) {
            int i = indexOf(key);
            return keyAt(i) == key ? items[i] : null;
        }

        /** The container of a key, made if there is none; null if there is no room for it. */
        Container findOrMake(int key) {
            int i = indexOf(key);
            if (keyAt(i) == key) {
                return items[i];
            }
            if (used >= MOST_CONTAINERS) {
                return null;
            }
            Container made = items[used];
            for (int k = used; k > i; k--) {
                items[k] = items[k - 1];
            }
            items[i] = made;
            used++;
            made.begin(key);
            return made;
        }

        void leaveOut(int key) {
            int i = indexOf(key);
            if (keyAt(i) != key) {
                return;
            }
            Container gone = items[i];
            used--;
            for (int k = i; k < used; k++) {
                items[k] = items[k + 1];
            }
            items[used] = gone;
        }

        /** 1 if a number came or went, 0 if none did, or FULL. */
        int changeSpan(int key, int from, int to, int how) {
            if (how == GO && find(key) == null) {
                return 0;
            }
            Container c = findOrMake(key);
            if (c == null) {
                return FULL;
            }
            return settle(c, c.changeLows(from, to, how));
        }

        /** Likewise. */
        int putSteps(int key, int from, int step) {
            Container c = findOrMake(key);
            if (c == null) {
                return FULL;
            }
            return settle(c, c.putLowsBySteps(from, step));
        }

        private int settle(Container c, boolean changed) {
            if (!changed) {
                return 0;
            }
            c.setPlainKind();
            if (c.total == 0) {
                leaveOut(c.key);
            }
            return 1;
        }

        /** Whether what a and b, both others than this, have together is not too much for a set. */
        boolean becomeJoin(int what, NumberSet a, NumberSet b) {
            int i = 0;
            int j = 0;
            used = 0;
            for (int step = 0; step < 2 * MOST_CONTAINERS && used <= MOST_CONTAINERS; step++) {
                int keyOfA = a.keyAt(i);
                int keyOfB = b.keyAt(j);
                if (keyOfA == BEYOND && keyOfB == BEYOND) {
                    break;
                }
                if (keyOfA < keyOfB) {
                    if (what != AND) {
                        items[used++].copyLowsOf(a.items[i]);
                    }
                    i++;
                } else if (keyOfB < keyOfA) {
                    if (what == OR || what == XOR) {
                        items[used++].copyLowsOf(b.items[j]);
                    }
                    j++;
                } else {
                    items[used].becomeMix(what, a.items[i++], b.items[j++]);
                    if (items[used].total > 0) {
                        used++;
                    }
                }
            }
            return used <= MOST_CONTAINERS;
        }

        void becomeAll() {
            used = 0;
            changeSpan(0, 0, GREATEST, COME);
        }

        void shrinkAll() {
            for (int i = 0; i < used; i++) {
                items[i].setSmallestKind();
            }
        }

        int total() {
            int found = 0;
            for (int i = 0; i < used; i++) {
                found += items[i].total;
            }
            return found;
        }

        int totalOfKind(int kind) {
            int found = 0;
            for (int i = 0; i < used; i++) {
                if (items[i].kind == kind) {
                    found++;
                }
            }
            return found;
        }

        int totalUpTo(int key, int low) {
            int found = 0;
            for (int i = 0; i < used && items[i].key <= key; i++) {
                found += items[i].key < key ? items[i].total : items[i].lowsUpTo(low);
            }
            return found;
        }

        long numberAt(int i) {
            int ahead = i;
            for (int k = 0; k < used; k++) {
                if (ahead < items[k].total) {
                    return numberOf(items[k].key, items[k].lowAt(ahead));
                }
                ahead -= items[k].total;
            }
            return NONE;
        }

        long firstFrom(int key, int low) {
            for (int i = indexOf(key); i < used; i++) {
                int found = items[i].firstIn(items[i].key == key ? low : 0);
                if (found != BEYOND) {
                    return numberOf(items[i].key, found);
                }
            }
            return NONE;
        }

        boolean isInside(NumberSet other) {
            for (int i = 0; i < used; i++) {
                Container theirs = other.find(items[i].key);
                if (theirs == null || !items[i].hasNoLowBut(theirs)) {
                    return false;
                }
            }
            return true;
        }

        boolean meets(NumberSet other) {
            for (int i = 0; i < used; i++) {
                Container theirs = other.find(items[i].key);
                if (theirs != null && items[i].hasLowIn(theirs)) {
                    return true;
                }
            }
            return false;
        }

        long digestSetFrom(long start) {
            long h = 31 * start + total();
            h = 31 * h + used;
            for (int i = 0; i < used; i++) {
                h = items[i].digestFrom(h);
            }
            return h;
        }

        private static long numberOf(int key, int low) {
            return (long) key << 16 | low;
        }
    }

    /** The pile of sets on which a formula is worked out. */
    private static final class Pile {
        final NumberSet[] levels = new NumberSet[MOST_PILED];
        int depth;

        Pile() {
            for (int i = 0; i < levels.length; i++) {
                levels[i] = new NumberSet();
            }
        }

        /** Looks at the whole formula ahead of any work, as BAD comes ahead of SPENT and FULL. */
        static boolean isSound(long signs, int n) {
            if (n < 1 || n > MOST_SIGNS) {
                return false;
            }
            int high = 0;
            for (int i = 0; i < n; i++) {
                int sign = signAt(signs, i);
                if (sign < SETS || sign == ALL) {
                    high++;
                } else if (isJoin(sign) && high >= 2) {
                    high--;
                } else if (sign != IDLE) {
                    return false;
                }
                if (high > MOST_PILED) {
                    return false;
                }
            }
            return high == 1;
        }

        /** Leaves what a sound formula tells in the lowest level; false if one set has too much. */
        boolean evaluate(long signs, int n, NumberSet[] sets, NumberSet spare) {
            depth = 0;
            for (int i = 0; i < n; i++) {
                int sign = signAt(signs, i);
                if (isJoin(sign)) {
                    if (!joinUpperTwo(sign - FIRST_JOIN, spare)) {
                        return false;
                    }
                } else if (depth < MOST_PILED && sign == ALL) {
                    levels[depth++].becomeAll();
                } else if (depth < MOST_PILED && sign < SETS) {
                    levels[depth++].copyFrom(sets[sign]);
                }
            }
            return true;
        }

        private boolean joinUpperTwo(int what, NumberSet spare) {
            if (depth < 2 || !spare.becomeJoin(what, levels[depth - 2], levels[depth - 1])) {
                return false;
            }
            depth--;
            levels[depth - 1].exchange(spare);
            return true;
        }

        private static int signAt(long signs, int i) {
            return (int) (signs >>> 8 * i) & 255;
        }

        private static boolean isJoin(int sign) {
            return sign >= FIRST_JOIN && sign <= LAST_JOIN;
        }
    }

    /** The bytes in the portable form; numbers of several bytes have the lowest one first. */
    private static final class ByteRow {
        byte[] held = new byte[FIRST_BYTES];
        int used;

        boolean lacks(int i) {
            return i < 0 || i >= used;
        }

        int byteAt(int i) {
            return held[i] & 255;
        }

        /** The caller has looked that there is room for m more. */
        void put(long number, int m) {
            if (used + m > held.length && held.length < MOST_BYTES) {
                held = Arrays.copyOf(held, MOST_BYTES);
            }
            for (int k = 0; k < m && used < held.length; k++) {
                held[used++] = (byte) (number >>> 8 * k);
            }
        }

        long numberAt(int place, int m) {
            long number = 0;
            for (int k = 0; k < m; k++) {
                number |= (long) byteAt(place + k) << 8 * k;
            }
            return number;
        }
    }

    /** Writes a set in the portable form. */
    private static final class Writer {
        static int bytesOf(NumberSet set) {
            int found = headBytesOf(set);
            for (int i = 0; i < set.used; i++) {
                found += bodyBytesOf(set.items[i]);
            }
            return found;
        }

        /** The caller has looked that the set is not too long. */
        static void putSet(NumberSet set, ByteRow out) {
            putMark(set, out);
            for (int i = 0; i < set.used; i++) {
                out.put(set.items[i].key, 2);
                out.put(set.items[i].total - 1, 2);
            }
            if (hasPlaces(set)) {
                putPlaces(set, out);
            }
            for (int i = 0; i < set.used; i++) {
                putBody(set.items[i], out);
            }
        }

        private static boolean hasRuns(NumberSet set) {
            return set.totalOfKind(RUNS) > 0;
        }

        private static boolean hasPlaces(NumberSet set) {
            return !hasRuns(set) || set.used >= PLACES_FROM;
        }

        private static int headBytesOf(NumberSet set) {
            int mark = hasRuns(set) ? 4 + (set.used + 7) / 8 : 8;
            return mark + (hasPlaces(set) ? 8 : 4) * set.used;
        }

        private static int bodyBytesOf(Container c) {
            switch (c.kind) {
                case ARRAY: return 2 * c.total;
                case BITMAP: return BITMAP_BYTES;
                default: return 2 + 4 * c.totalRuns();
            }
        }

        private static void putMark(NumberSet set, ByteRow out) {
            if (!hasRuns(set)) {
                out.put(PLAIN_MARK, 4);
                out.put(set.used, 4);
                return;
            }
            long bits = 0;
            for (int i = 0; i < set.used; i++) {
                if (set.items[i].kind == RUNS) {
                    bits |= 1L << i;
                }
            }
            out.put(RUNS_MARK, 2);
            out.put(set.used - 1, 2);
            out.put(bits, (set.used + 7) / 8);
        }

        private static void putPlaces(NumberSet set, ByteRow out) {
            int place = headBytesOf(set);
            for (int i = 0; i < set.used; i++) {
                out.put(place, 4);
                place += bodyBytesOf(set.items[i]);
            }
        }

        private static void putBody(Container c, ByteRow out) {
            switch (c.kind) {
                case ARRAY: putArray(c, out); break;
                case BITMAP: putBitmap(c, out); break;
                default: putRuns(c, out); break;
            }
        }

        private static void putArray(Container c, ByteRow out) {
            for (int w = 0; w < WORDS; w++) {
                long word = c.words[w];
                int here = Long.bitCount(word);
                for (int k = 0; k < here; k++) {
                    out.put((w << 6) + Long.numberOfTrailingZeros(word), 2);
                    word &= word - 1;
                }
            }
        }

        private static void putBitmap(Container c, ByteRow out) {
            for (int w = 0; w < WORDS; w++) {
                out.put(c.words[w], 8);
            }
        }

        private static void putRuns(Container c, ByteRow out) {
            int runs = c.totalRuns();
            out.put(runs, 2);
            int first = c.firstIn(0);
            for (int r = 0; r < runs; r++) {
                int behind = c.firstOut(first);
                out.put(first, 2);
                out.put(behind - first - 1, 2);
                first = c.firstIn(behind);
            }
        }
    }

    /** Reads the portable form from the first byte on, up to the first fault. */
    private static final class Reader {
        int faultNumber;
        int faultPlace;
        private int place;
        private int end;
        private int n;
        private boolean plainMark;
        private int runBits;
        /** Where the places of the containers are told; NONE if they are not. */
        private int placesFrom;
        private final int[] keys = new int[MOST_CONTAINERS];
        private final int[] totals = new int[MOST_CONTAINERS];

        /** Whether the set could be read; if not, what is in it then is of no use. */
        boolean takeSet(ByteRow in, NumberSet set) {
            faultNumber = 0;
            faultPlace = 0;
            place = 0;
            end = in.used;
            n = 0;
            plainMark = false;
            runBits = 0;
            placesFrom = NONE;
            set.used = 0;
            if (!takeMark(in) || !takeHeads(in) || !takePlaces()) {
                return false;
            }
            for (int i = 0; i < n; i++) {
                if (!takeContainer(in, set, i)) {
                    return false;
                }
            }
            return place == end || tellFault(LEFT_OVER, place);
        }

        /** Always false, so that it can be what a step answers. */
        private boolean tellFault(int number, int where) {
            faultNumber = number;
            faultPlace = where;
            return false;
        }

        private boolean isThere(int m) {
            return end - place >= m || tellFault(ENDED, end);
        }

        private long take(ByteRow in, int m) {
            long number = in.numberAt(place, m);
            place += m;
            return number;
        }

        private boolean takeMark(ByteRow in) {
            if (!isThere(4)) {
                return false;
            }
            long mark = take(in, 4);
            if (mark == PLAIN_MARK) {
                return takePlainTotal(in);
            }
            if ((mark & GREATEST) != RUNS_MARK) {
                return tellFault(NO_MARK, 0);
            }
            return takeRunBits(in, (int) (mark >>> 16) + 1);
        }

        private boolean takePlainTotal(ByteRow in) {
            if (!isThere(4)) {
                return false;
            }
            long told = take(in, 4);
            if (told > MOST_CONTAINERS) {
                return tellFault(TOO_MANY, 4);
            }
            n = (int) told;
            plainMark = true;
            return true;
        }

        private boolean takeRunBits(ByteRow in, int told) {
            if (told > MOST_CONTAINERS) {
                return tellFault(TOO_MANY, 2);
            }
            if (!isThere(1)) {
                return false;
            }
            n = told;
            runBits = (int) take(in, 1);
            return runBits >>> n == 0 || tellFault(BIT_OVER, place - 1);
        }

        private boolean takeHeads(ByteRow in) {
            for (int i = 0; i < n; i++) {
                if (!isThere(2)) {
                    return false;
                }
                keys[i] = (int) take(in, 2);
                if (i > 0 && keys[i] <= keys[i - 1]) {
                    return tellFault(KEY_ORDER, place - 2);
                }
                if (!isThere(2)) {
                    return false;
                }
                totals[i] = (int) take(in, 2) + 1;
            }
            return true;
        }

        private boolean takePlaces() {
            if (!plainMark && n < PLACES_FROM) {
                return true;
            }
            if (!isThere(4 * n)) {
                return false;
            }
            placesFrom = place;
            place += 4 * n;
            return true;
        }

        private boolean takeContainer(ByteRow in, NumberSet set, int i) {
            if (placesFrom != NONE && in.numberAt(placesFrom + 4 * i, 4) != place) {
                return tellFault(WRONG_PLACE, placesFrom + 4 * i);
            }
            Container c = set.items[i];
            c.begin(keys[i]);
            set.used = i + 1;
            if ((runBits >>> i & 1) != 0) {
                c.kind = RUNS;
                return takeRuns(in, c, totals[i]);
            }
            if (totals[i] <= MOST_OF_ARRAY) {
                c.kind = ARRAY;
                return takeArray(in, c, totals[i]);
            }
            c.kind = BITMAP;
            return takeBitmap(in, c, totals[i]);
        }

        private boolean takeArray(ByteRow in, Container c, int total) {
            int ahead = NONE;
            for (int k = 0; k < total; k++) {
                if (!isThere(2)) {
                    return false;
                }
                int low = (int) take(in, 2);
                if (low <= ahead) {
                    return tellFault(LOW_ORDER, place - 2);
                }
                c.changeLows(low, low, COME);
                ahead = low;
            }
            return true;
        }

        private boolean takeBitmap(ByteRow in, Container c, int total) {
            if (!isThere(BITMAP_BYTES)) {
                return false;
            }
            for (int w = 0; w < WORDS; w++) {
                c.words[w] = take(in, 8);
                c.total += Long.bitCount(c.words[w]);
            }
            return c.total == total || tellFault(WRONG_TOTAL, place);
        }

        private boolean takeRuns(ByteRow in, Container c, int total) {
            if (!isThere(2)) {
                return false;
            }
            int runs = (int) take(in, 2);
            int least = 0;
            for (int r = 0; r < runs; r++) {
                if (!isThere(4)) {
                    return false;
                }
                int first = (int) take(in, 2);
                int last = first + (int) take(in, 2);
                if (first < least || last > GREATEST) {
                    return tellFault(LOW_ORDER, place - 4);
                }
                c.changeLows(first, last, COME);
                least = last + 2;
            }
            return c.total == total || tellFault(WRONG_TOTAL, place);
        }
    }
}

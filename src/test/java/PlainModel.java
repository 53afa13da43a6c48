import java.io.ByteArrayOutputStream;
import java.util.ArrayList;
import java.util.BitSet;
import java.util.List;
import java.util.Map;
import java.util.TreeMap;

/**
 * The document told once more, as plainly as can be and without a thought of speed, with the Java
 * library. ModelTest holds the class against it.
 */
final class PlainModel implements Index {
    static final int NONE = -1, BAD = -2, FULL = -3, LONG = -4, SPENT = -5;

    /** Lows and kind of one container. */
    private static final class Box {
        final BitSet lows;
        int kind;

        Box(BitSet lows, int kind) {
            this.lows = lows;
            this.kind = kind;
        }

        static Box plain(BitSet lows) {
            return new Box(lows, lows.cardinality() <= 4096 ? 0 : 1);
        }

        List<int[]> runs() {
            List<int[]> found = new ArrayList<>();
            for (int low = lows.nextSetBit(0); low >= 0; ) {
                int behind = lows.nextClearBit(low);
                found.add(new int[] {low, behind - 1});
                low = lows.nextSetBit(behind);
            }
            return found;
        }
    }

    /** Thrown where a reading finds its first fault. */
    private static final class Fault extends RuntimeException {
        private static final long serialVersionUID = 1;
        final int number;
        final int place;

        Fault(int number, int place) {
            this.number = number;
            this.place = place;
        }
    }

    private final List<TreeMap<Integer, Box>> sets = new ArrayList<>();
    private List<Integer> bytes = new ArrayList<>();
    private int work = 300;
    private int fault = 0;
    private int cursor;

    PlainModel() {
        for (int s = 0; s < 8; s++) {
            sets.add(new TreeMap<>());
        }
    }

    private static boolean within(int v, int least, int greatest) {
        return v >= least && v <= greatest;
    }

    private static int total(TreeMap<Integer, Box> set) {
        int n = 0;
        for (Box b : set.values()) {
            n += b.lows.cardinality();
        }
        return n;
    }

    /** Puts new lows in the place of a container's old ones; false: FULL. */
    private boolean put(int set, int key, BitSet lows) {
        TreeMap<Integer, Box> s = sets.get(set);
        Box old = s.get(key);
        if (old != null && old.lows.equals(lows)) {
            return true;
        }
        if (lows.isEmpty()) {
            s.remove(key);
            return true;
        }
        if (old == null && s.size() == 6) {
            return false;
        }
        s.put(key, Box.plain(lows));
        return true;
    }

    private BitSet lowsOf(int set, int key) {
        Box b = sets.get(set).get(key);
        return b == null ? new BitSet() : (BitSet) b.lows.clone();
    }

    @Override public int add(int set, int v) {
        if (!within(set, 0, 7)) return BAD;
        BitSet lows = lowsOf(set, v >>> 16);
        if (lows.get(v & 65535)) return 0;
        lows.set(v & 65535);
        return put(set, v >>> 16, lows) ? 1 : FULL;
    }

    @Override public int remove(int set, int v) {
        if (!within(set, 0, 7)) return BAD;
        BitSet lows = lowsOf(set, v >>> 16);
        if (!lows.get(v & 65535)) return 0;
        lows.clear(v & 65535);
        put(set, v >>> 16, lows);
        return 1;
    }

    @Override public int range(int set, int key, int from, int to, int how) {
        if (!within(set, 0, 7) || !within(key, 0, 65535) || !within(from, 0, 65535)) return BAD;
        if (!within(to, from, 65535) || !within(how, 0, 2)) return BAD;
        BitSet lows = lowsOf(set, key);
        if (how == 0) lows.set(from, to + 1);
        if (how == 1) lows.clear(from, to + 1);
        if (how == 2) lows.flip(from, to + 1);
        return put(set, key, lows) ? total(sets.get(set)) : FULL;
    }

    @Override public int steps(int set, int key, int from, int step) {
        if (!within(set, 0, 7) || !within(key, 0, 65535) || !within(from, 0, 65535)) return BAD;
        if (!within(step, 1, 65535)) return BAD;
        BitSet lows = lowsOf(set, key);
        for (int low = from; low < 65536; low += step) lows.set(low);
        return put(set, key, lows) ? total(sets.get(set)) : FULL;
    }

    @Override public int clear(int set) {
        if (!within(set, 0, 7)) return BAD;
        int n = total(sets.get(set));
        sets.get(set).clear();
        return n;
    }

    /** null: FULL. */
    private static TreeMap<Integer, Box> joined(int what, TreeMap<Integer, Box> a, TreeMap<Integer, Box> b) {
        TreeMap<Integer, Box> r = new TreeMap<>();
        TreeMap<Integer, Box> keys = new TreeMap<>(a);
        keys.putAll(b);
        for (int key : keys.keySet()) {
            Box ofA = a.get(key);
            Box ofB = b.get(key);
            BitSet lows = ofA == null ? new BitSet() : (BitSet) ofA.lows.clone();
            BitSet other = ofB == null ? new BitSet() : ofB.lows;
            if (what == 0) lows.and(other);
            if (what == 1) lows.or(other);
            if (what == 2) lows.xor(other);
            if (what == 3) lows.andNot(other);
            if (lows.isEmpty()) continue;
            Box made = Box.plain(lows);
            if (ofA != null && ofA.lows.equals(lows)) made.kind = ofA.kind;
            else if (ofB != null && ofB.lows.equals(lows)) made.kind = ofB.kind;
            r.put(key, made);
        }
        return r.size() > 6 ? null : r;
    }

    private static TreeMap<Integer, Box> copy(TreeMap<Integer, Box> set) {
        TreeMap<Integer, Box> r = new TreeMap<>();
        for (Map.Entry<Integer, Box> e : set.entrySet()) {
            r.put(e.getKey(), new Box((BitSet) e.getValue().lows.clone(), e.getValue().kind));
        }
        return r;
    }

    @Override public int join(int to, int what, int a, int b) {
        if (!within(to, 0, 7) || !within(what, 0, 3) || !within(a, 0, 7) || !within(b, 0, 7)) return BAD;
        if (work < 1) return SPENT;
        work -= 1;
        TreeMap<Integer, Box> r = joined(what, sets.get(a), sets.get(b));
        if (r == null) return FULL;
        sets.set(to, r);
        return total(r);
    }

    @Override public int shrink(int set) {
        if (!within(set, 0, 7)) return BAD;
        if (work < 1) return SPENT;
        work -= 1;
        int n = 0;
        for (Box b : sets.get(set).values()) {
            b.kind = Box.plain(b.lows).kind;
            int otherwise = b.kind == 0 ? 2 * b.lows.cardinality() : 8192;
            if (2 + 4 * b.runs().size() < otherwise) {
                b.kind = 2;
                n++;
            }
        }
        return n;
    }

    @Override public int formula(int to, long signs, int n) {
        if (!within(to, 0, 7) || !within(n, 1, 8)) return BAD;
        List<TreeMap<Integer, Box>> pile = new ArrayList<>();
        boolean full = false;
        for (int i = 0; i < n; i++) {
            int sign = (int) (signs >> 8 * i & 0xFF);
            if (sign <= 7) {
                pile.add(copy(sets.get(sign)));
            } else if (sign >= 16 && sign <= 19) {
                if (pile.size() < 2) return BAD;
                TreeMap<Integer, Box> upper = pile.remove(pile.size() - 1);
                TreeMap<Integer, Box> lower = pile.remove(pile.size() - 1);
                TreeMap<Integer, Box> r = joined(sign - 16, lower, upper);
                full |= r == null;
                pile.add(r == null ? new TreeMap<>() : r);
            } else if (sign == 20) {
                BitSet all = new BitSet();
                all.set(0, 65536);
                TreeMap<Integer, Box> r = new TreeMap<>();
                r.put(0, Box.plain(all));
                pile.add(r);
            } else if (sign != 255) {
                return BAD;
            }
        }
        if (pile.size() != 1) return BAD;
        if (work < n) return SPENT;
        work -= n;
        if (full) return FULL;
        sets.set(to, pile.get(0));
        return total(pile.get(0));
    }

    @Override public int has(int set, int v) {
        if (!within(set, 0, 7)) return BAD;
        return lowsOf(set, v >>> 16).get(v & 65535) ? 1 : 0;
    }

    @Override public int rank(int set, int v) {
        if (!within(set, 0, 7)) return BAD;
        int n = 0;
        for (Map.Entry<Integer, Box> e : sets.get(set).entrySet()) {
            if (e.getKey() < v >>> 16) n += e.getValue().lows.cardinality();
            if (e.getKey() == v >>> 16) n += e.getValue().lows.get(0, (v & 65535) + 1).cardinality();
        }
        return n;
    }

    @Override public long select(int set, int i) {
        if (!within(set, 0, 7) || i < 0) return BAD;
        int n = i;
        for (Map.Entry<Integer, Box> e : sets.get(set).entrySet()) {
            BitSet lows = e.getValue().lows;
            if (n >= lows.cardinality()) {
                n -= lows.cardinality();
                continue;
            }
            int low = lows.nextSetBit(0);
            for (int k = 0; k < n; k++) low = lows.nextSetBit(low + 1);
            return e.getKey() * 65536L + low;
        }
        return NONE;
    }

    @Override public long next(int set, int v) {
        if (!within(set, 0, 7)) return BAD;
        for (Map.Entry<Integer, Box> e : sets.get(set).tailMap(v >>> 16).entrySet()) {
            int low = e.getValue().lows.nextSetBit(e.getKey() == v >>> 16 ? v & 65535 : 0);
            if (low >= 0) return e.getKey() * 65536L + low;
        }
        return NONE;
    }

    @Override public int count(int set, int what) {
        if (!within(set, 0, 7) || !within(what, 0, 4)) return BAD;
        if (what == 0) return total(sets.get(set));
        int n = 0;
        for (Box b : sets.get(set).values()) {
            if (what == 1 || b.kind == what - 2) n++;
        }
        return n;
    }

    @Override public int container(int set, int k, int what) {
        if (!within(set, 0, 7) || !within(k, 0, sets.get(set).size() - 1) || !within(what, 0, 3)) return BAD;
        int key = new ArrayList<>(sets.get(set).keySet()).get(k);
        Box b = sets.get(set).get(key);
        return what == 0 ? key : what == 1 ? b.kind : what == 2 ? b.lows.cardinality() : b.runs().size();
    }

    @Override public int compare(int a, int b) {
        if (!within(a, 0, 7) || !within(b, 0, 7)) return BAD;
        int both = 0;
        for (int key : sets.get(a).keySet()) {
            BitSet lows = lowsOf(a, key);
            lows.and(lowsOf(b, key));
            both += lows.cardinality();
        }
        boolean aIn = both == total(sets.get(a));
        boolean bIn = both == total(sets.get(b));
        return aIn && bIn ? 2 : aIn ? 3 : bIn ? 4 : both == 0 ? 0 : 1;
    }

    private static void out(ByteArrayOutputStream to, long v, int m) {
        for (int k = 0; k < m; k++) to.write((int) (v >> 8 * k & 255));
    }

    private static ByteArrayOutputStream body(Box b) {
        ByteArrayOutputStream to = new ByteArrayOutputStream();
        if (b.kind == 0) {
            b.lows.stream().forEach(low -> out(to, low, 2));
        } else if (b.kind == 1) {
            for (int i = 0; i < 8192; i++) {
                int v = 0;
                for (int k = 0; k < 8; k++) {
                    if (b.lows.get(8 * i + k)) v += 1 << k;
                }
                to.write(v);
            }
        } else {
            out(to, b.runs().size(), 2);
            for (int[] r : b.runs()) {
                out(to, r[0], 2);
                out(to, r[1] - r[0], 2);
            }
        }
        return to;
    }

    @Override public int write(int set) {
        if (!within(set, 0, 7)) return BAD;
        TreeMap<Integer, Box> s = sets.get(set);
        ByteArrayOutputStream head = new ByteArrayOutputStream();
        int bits = 0;
        int k = 0;
        for (Box b : s.values()) {
            if (b.kind == 2) bits += 1 << k;
            k++;
        }
        out(head, bits == 0 ? 12346 : 12347, bits == 0 ? 4 : 2);
        out(head, bits == 0 ? s.size() : s.size() - 1, bits == 0 ? 4 : 2);
        if (bits != 0) out(head, bits, 1);
        for (Map.Entry<Integer, Box> e : s.entrySet()) {
            out(head, e.getKey(), 2);
            out(head, e.getValue().lows.cardinality() - 1, 2);
        }
        boolean places = bits == 0 || s.size() >= 4;
        int place = head.size() + (places ? 4 * s.size() : 0);
        ByteArrayOutputStream rest = new ByteArrayOutputStream();
        for (Box b : s.values()) {
            if (places) out(head, place + rest.size(), 4);
            rest.writeBytes(body(b).toByteArray());
        }
        head.writeBytes(rest.toByteArray());
        if (head.size() > 60000) return LONG;
        bytes = new ArrayList<>();
        for (byte b : head.toByteArray()) bytes.add(b & 255);
        return bytes.size();
    }

    private long in(int m) {
        if (cursor + m > bytes.size()) throw new Fault(1, bytes.size());
        long v = 0;
        for (int k = m - 1; k >= 0; k--) v = v * 256 + bytes.get(cursor + k);
        cursor += m;
        return v;
    }

    private TreeMap<Integer, Box> readAll() {
        cursor = 0;
        long mark = in(4);
        boolean plain = mark == 12346;
        if (!plain && mark % 65536 != 12347) throw new Fault(2, 0);
        long n = plain ? in(4) : mark / 65536 + 1;
        if (n > 6) throw new Fault(3, plain ? 4 : 2);
        long bits = plain ? 0 : in(1);
        if (bits >= 1 << n) throw new Fault(4, 4);
        int[] keys = new int[(int) n];
        int[] totals = new int[(int) n];
        long[] places = new long[(int) n];
        for (int i = 0; i < n; i++) {
            keys[i] = (int) in(2);
            if (i > 0 && keys[i] <= keys[i - 1]) throw new Fault(5, cursor - 2);
            totals[i] = (int) in(2) + 1;
        }
        boolean told = plain || n >= 4;
        for (int i = 0; told && i < n; i++) places[i] = in(4);
        int behindHead = cursor;
        TreeMap<Integer, Box> r = new TreeMap<>();
        for (int i = 0; i < n; i++) {
            if (told && places[i] != cursor) throw new Fault(6, behindHead - 4 * ((int) n - i));
            r.put(keys[i], readBox((bits >> i & 1) == 1 ? 2 : totals[i] <= 4096 ? 0 : 1, totals[i]));
        }
        if (cursor < bytes.size()) throw new Fault(9, cursor);
        return r;
    }

    private Box readBox(int kind, int total) {
        BitSet lows = new BitSet();
        if (kind == 0) {
            for (int k = 0; k < total; k++) {
                int low = (int) in(2);
                if (low < lows.length()) throw new Fault(7, cursor - 2);
                lows.set(low);
            }
        } else if (kind == 1) {
            for (int i = 0; i < 8192; i++) {
                long v = in(1);
                for (int k = 0; k < 8; k++) {
                    if ((v >> k & 1) == 1) lows.set(8 * i + k);
                }
            }
        } else {
            long runs = in(2);
            for (long r = 0; r < runs; r++) {
                int first = (int) in(2);
                int more = (int) in(2);
                boolean near = !lows.isEmpty() && first < lows.length() - 1 + 2;
                if (near || first + more > 65535) throw new Fault(7, cursor - 4);
                lows.set(first, first + more + 1);
            }
        }
        if (lows.cardinality() != total) throw new Fault(8, cursor);
        return new Box(lows, kind);
    }

    @Override public int read(int set) {
        if (!within(set, 0, 7)) return BAD;
        if (work < 1) return SPENT;
        work -= 1;
        try {
            TreeMap<Integer, Box> r = readAll();
            fault = 0;
            sets.set(set, r);
            return total(r);
        } catch (Fault f) {
            fault = f.number;
            return -100 - f.place;
        }
    }

    @Override public int fault() {
        return fault;
    }

    @Override public int cut(int n) {
        if (!within(n, 0, bytes.size())) return BAD;
        int gone = bytes.size() - n;
        bytes = new ArrayList<>(bytes.subList(0, n));
        return gone;
    }

    @Override public int type(long w, int m) {
        if (!within(m, 0, 8)) return BAD;
        if (bytes.size() + m > 60000) return LONG;
        for (int k = 0; k < m; k++) bytes.add((int) (w >> 8 * k & 255));
        return bytes.size();
    }

    @Override public int at(int i) {
        return within(i, 0, bytes.size() - 1) ? bytes.get(i) : BAD;
    }

    @Override public int alter(int i, int v) {
        return within(i, 0, bytes.size() - 1) && within(v, 0, 255) ? bytes.set(i, v) : BAD;
    }

    @Override public int work() {
        return work;
    }

    @Override public int size() {
        return bytes.size();
    }

    @Override public long digest() {
        long h = 17;
        for (int s = 0; s < 8; s++) {
            h = 31 * h + count(s, 0);
            h = 31 * h + count(s, 1);
            for (Map.Entry<Integer, Box> e : sets.get(s).entrySet()) {
                Box b = e.getValue();
                h = 31 * h + e.getKey();
                h = 31 * h + b.kind;
                h = 31 * h + b.lows.cardinality();
                h = 31 * h + b.runs().size();
                long[] words = b.lows.toLongArray();
                for (int w = 0; w < 1024; w++) h = 31 * h + (w < words.length ? words[w] : 0);
            }
        }
        return h;
    }
}

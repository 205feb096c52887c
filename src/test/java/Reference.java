import java.util.ArrayList;
import java.util.List;
import java.util.TreeMap;

/** The document once more, word by word and without care for cost, to compare the class with. */
final class Reference {
    static final class Cells {
        final int[] words = new int[4];
        final Integer[] keys;
        final int[] values;
        final boolean[] gone;

        Cells(int count) {
            keys = new Integer[count];
            values = new int[count];
            gone = new boolean[count];
        }

        boolean isFree(int cell) {
            return keys[cell] == null && !gone[cell];
        }

        int home(int n) {
            return (int) Long.remainderUnsigned(hash(words, n), keys.length);
        }

        int look(int n) {
            for (int i = 0; i < keys.length; i++) {
                int cell = (home(n) + i) % keys.length;
                if (isFree(cell)) {
                    return -1;
                }
                if (keys[cell] != null && keys[cell] == n) {
                    return cell;
                }
            }
            return -1;
        }

        int bound() {
            int bound = 0;
            for (Integer key : keys) {
                bound += key == null ? 0 : 1;
            }
            return bound;
        }
    }

    private final int[] state = new int[4];
    private final int cells;
    private final int limit;
    private Cells fresh;
    private Cells old = null;
    private int longest = 0;
    private int rekeys = 0;

    Reference(int seed, int bits, int limit) {
        this.cells = 1 << (bits < 3 ? 3 : bits > 7 ? 7 : bits);
        this.limit = limit < 2 ? 2 : limit > 64 ? 64 : limit;
        int z = seed;
        for (int i = 0; i < 4; i++) {
            z += 0x9E3779B9;
            int x = z;
            x = x ^ (x >>> 16);
            x = x * 0x85EBCA6B;
            x = x ^ (x >>> 13);
            x = x * 0xC2B2AE35;
            x = x ^ (x >>> 16);
            state[i] = x;
        }
        fresh = freshCells();
    }

    private static int turned(int x, int by) {
        return (x << by) | (x >>> (32 - by));
    }

    private static long turned(long x, int by) {
        return (x << by) | (x >>> (64 - by));
    }

    private int draw() {
        int answer = turned(state[1] * 5, 7) * 9;
        int t = state[1] << 9;
        state[2] ^= state[0];
        state[3] ^= state[1];
        state[1] ^= state[2];
        state[0] ^= state[3];
        state[2] ^= t;
        state[3] = turned(state[3], 11);
        return answer;
    }

    private Cells freshCells() {
        Cells made = new Cells(cells);
        for (int i = 0; i < 4; i++) {
            made.words[i] = draw();
        }
        return made;
    }

    static long hash(int[] w, int n) {
        long k = Integer.toUnsignedLong(w[0]) + (Integer.toUnsignedLong(w[1]) << 32);
        long l = Integer.toUnsignedLong(w[2]) + (Integer.toUnsignedLong(w[3]) << 32);
        long m = Integer.toUnsignedLong(n) + 0x0400000000000000L;
        long[] v = {k ^ 0x736f6d6570736575L, l ^ 0x646f72616e646f6dL,
            k ^ 0x6c7967656e657261L, l ^ 0x7465646279746573L};
        v[3] ^= m;
        round(v);
        v[0] ^= m;
        v[2] ^= 255;
        round(v);
        round(v);
        round(v);
        return v[0] ^ v[1] ^ v[2] ^ v[3];
    }

    private static void round(long[] v) {
        v[0] = v[0] + v[1];
        v[1] = turned(v[1], 13);
        v[1] = v[1] ^ v[0];
        v[0] = turned(v[0], 32);
        v[2] = v[2] + v[3];
        v[3] = turned(v[3], 16);
        v[3] = v[3] ^ v[2];
        v[0] = v[0] + v[3];
        v[3] = turned(v[3], 21);
        v[3] = v[3] ^ v[0];
        v[2] = v[2] + v[1];
        v[1] = turned(v[1], 17);
        v[1] = v[1] ^ v[2];
        v[2] = turned(v[2], 32);
    }

    private int insert(int key, int value) {
        int run = 1;
        int cell = fresh.home(key);
        while (!fresh.isFree(cell)) {
            cell = (cell + 1) % cells;
            run++;
        }
        fresh.keys[cell] = key;
        fresh.values[cell] = value;
        return run;
    }

    private int step() {
        int moved = 0;
        while (moved < 4 && old != null) {
            int next = 0;
            while (old.keys[next] == null) {
                next++;
            }
            int key = old.keys[next];
            int value = old.values[next];
            dropFromOld(next);
            insert(key, value);
            moved++;
        }
        return moved;
    }

    private void dropFromOld(int cell) {
        old.keys[cell] = null;
        old.gone[cell] = true;
        if (old.bound() == 0) {
            old = null;
        }
    }

    private boolean liesBehind(int hole, int home, int cell) {
        for (int at = (hole + 1) % cells; ; at = (at + 1) % cells) {
            if (at == home) {
                return true;
            }
            if (at == cell) {
                return false;
            }
        }
    }

    private void takeFromFresh(int cell) {
        fresh.keys[cell] = null;
        int hole = cell;
        for (int at = (cell + 1) % cells; fresh.keys[at] != null; at = (at + 1) % cells) {
            if (!liesBehind(hole, fresh.home(fresh.keys[at]), at)) {
                fresh.keys[hole] = fresh.keys[at];
                fresh.values[hole] = fresh.values[at];
                fresh.keys[at] = null;
                hole = at;
            }
        }
    }

    private TreeMap<Integer, Integer> bound() {
        TreeMap<Integer, Integer> all = new TreeMap<>();
        List<Cells> tables = new ArrayList<>(List.of(fresh));
        if (old != null) {
            tables.add(old);
        }
        for (Cells table : tables) {
            for (int i = 0; i < cells; i++) {
                if (table.keys[i] != null) {
                    all.put(table.keys[i], table.values[i]);
                }
            }
        }
        return all;
    }

    int put(int key, int value) {
        step();
        if (fresh.look(key) >= 0) {
            fresh.values[fresh.look(key)] = value;
            return 1;
        }
        if (old != null && old.look(key) >= 0) {
            old.values[old.look(key)] = value;
            return 1;
        }
        if (size() == 3 * cells / 4) {
            return 2;
        }
        int run = insert(key, value);
        if (run > limit) {
            rekey();
        } else {
            longest = Math.max(longest, run);
        }
        return 0;
    }

    int get(int key) {
        return bound().getOrDefault(key, 0);
    }

    boolean has(int key) {
        return bound().containsKey(key);
    }

    boolean remove(int key) {
        if (fresh.look(key) >= 0) {
            takeFromFresh(fresh.look(key));
            return true;
        }
        if (old != null && old.look(key) >= 0) {
            dropFromOld(old.look(key));
            return true;
        }
        return false;
    }

    int size() {
        return bound().size();
    }

    int probeMax() {
        return longest;
    }

    int rekey() {
        int moved = 0;
        while (old != null) {
            moved += step();
        }
        old = fresh.bound() == 0 ? null : fresh;
        fresh = freshCells();
        longest = 0;
        rekeys++;
        return moved;
    }

    int migrateStep() {
        step();
        return old == null ? 0 : old.bound();
    }

    int hashLo(int key) {
        return (int) hash(fresh.words, key);
    }

    int hashHi(int key) {
        return (int) (hash(fresh.words, key) >> 32);
    }

    int keyWord(int i) {
        return i < 0 || i > 3 ? 0 : fresh.words[i];
    }

    int nth(int i) {
        return i < 0 || i >= cells || fresh.keys[i] == null ? -1 : fresh.keys[i];
    }

    int filled(boolean ofOld, int i) {
        Cells table = ofOld ? old : fresh;
        if (table == null || i < 0 || i >= cells) {
            return 0;
        }
        return table.gone[i] ? 2 : table.keys[i] != null ? 1 : 0;
    }

    int above(int key) {
        Integer next = bound().higherKey(key);
        return next == null ? key : next;
    }

    long sum() {
        long[] total = {0};
        bound().forEach((key, value) -> total[0] += hash(fresh.words, key) * (2 * (long) value + 1));
        return total[0];
    }

    int rekeys() {
        return rekeys;
    }
}

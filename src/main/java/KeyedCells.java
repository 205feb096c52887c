/**
 * A table from ints to ints that nobody can flood: the places are told by a keyed hash, too long
 * a run draws a new key, and the entries then move over a few at a time.
 */
public final class KeyedCells {
    private static final int LEAST_BITS = 3;
    private static final int MOST_BITS = 7;
    private static final int LEAST_LIMIT = 2;
    private static final int MOST_LIMIT = 64;
    private static final int MOVES_OF_A_STEP = 4;

    private static final int FREE = 0;
    private static final int KEYED = 1;
    private static final int GONE = 2;

    /** The cell of an int that a look did not find. */
    private static final int NOWHERE = -1;

    private final int runLimit;
    private final int mostBound;
    private final Generator generator;
    private Table newTable;
    /** Made once and used again; while it holds no int, there is no old table. */
    private Table oldTable;
    private int longestRun;
    private int rekeyCount;

    public KeyedCells(int seed, int bits, int limit) {
        int cells = 1 << Math.max(LEAST_BITS, Math.min(MOST_BITS, bits));
        runLimit = Math.max(LEAST_LIMIT, Math.min(MOST_LIMIT, limit));
        mostBound = 3 * cells / 4;
        generator = new Generator(seed);
        newTable = new Table(cells);
        oldTable = new Table(cells);
        longestRun = 0;
        rekeyCount = 0;
        beginNewTable();
    }

    public int put(int key, int value) {
        makeStep();
        Table holder = holderOf(key);
        if (holder != null) {
            holder.change(key, value);
            return 1;
        }
        if (boundCount() >= mostBound) {
            return 2;
        }
        int run = newTable.place(key, value);
        longestRun = Math.max(longestRun, run);
        if (run > runLimit) {
            drawNewKey();
        }
        return 0;
    }

    public int get(int key) {
        Table holder = holderOf(key);
        return holder == null ? 0 : holder.valueOf(key);
    }

    public boolean has(int key) {
        return holderOf(key) != null;
    }

    public boolean remove(int key) {
        int cell = newTable.cellOf(key);
        if (cell != NOWHERE) {
            newTable.takeOut(cell);
            return true;
        }
        cell = oldTable.cellOf(key);
        if (cell != NOWHERE) {
            oldTable.markGone(cell);
            return true;
        }
        return false;
    }

    public int size() {
        return boundCount();
    }

    public int probeMax() {
        return longestRun;
    }

    public int rekey() {
        return drawNewKey();
    }

    public int migrateStep() {
        makeStep();
        return oldTable.count;
    }

    public int hashLo(int key) {
        return (int) newTable.hashOf(key);
    }

    public int hashHi(int key) {
        return (int) (newTable.hashOf(key) >>> 32);
    }

    public int keyWord(int i) {
        return i >= 0 && i < newTable.words.length ? newTable.words[i] : 0;
    }

    public int nth(int i) {
        return newTable.markAt(i) == KEYED ? newTable.keys[i] : -1;
    }

    public int filled(boolean old, int i) {
        if (!old) {
            return newTable.markAt(i);
        }
        // The cells of a table that was emptied are still marked gone, but it is no table any more.
        return oldTable.count == 0 ? FREE : oldTable.markAt(i);
    }

    public int above(int key) {
        return oldTable.nearestAbove(key, newTable.nearestAbove(key, key));
    }

    public long sum() {
        return sumOver(newTable) + sumOver(oldTable);
    }

    public int rekeys() {
        return rekeyCount;
    }

    private int boundCount() {
        return newTable.count + oldTable.count;
    }

    private Table holderOf(int key) {
        if (newTable.cellOf(key) != NOWHERE) {
            return newTable;
        }
        return oldTable.cellOf(key) != NOWHERE ? oldTable : null;
    }

    /** Answers how many were moved. */
    private int makeStep() {
        int moved = 0;
        for (int cell = 0; cell <= oldTable.mask; cell++) {
            if (moved == MOVES_OF_A_STEP || oldTable.count == 0) {
                break;
            }
            if (oldTable.marks[cell] == KEYED) {
                oldTable.markGone(cell);
                newTable.place(oldTable.keys[cell], oldTable.values[cell]);
                moved++;
            }
        }
        return moved;
    }

    /** Answers how many were moved before the new key was drawn. */
    private int drawNewKey() {
        int moved = 0;
        // A step moves at least one while there is an old table, so as many steps as cells suffice.
        for (int steps = 0; steps <= oldTable.mask && oldTable.count > 0; steps++) {
            moved += makeStep();
        }
        Table emptied = oldTable;
        oldTable = newTable;
        newTable = emptied;
        beginNewTable();
        longestRun = 0;
        rekeyCount++;
        return moved;
    }

    private void beginNewTable() {
        newTable.clear();
        for (int i = 0; i < newTable.words.length; i++) {
            newTable.words[i] = generator.draw();
        }
    }

    /** The hash is the new table's for the entries of the old table too. */
    private long sumOver(Table table) {
        long total = 0;
        for (int cell = 0; cell <= table.mask; cell++) {
            if (table.marks[cell] == KEYED) {
                total += newTable.hashOf(table.keys[cell]) * (2L * table.values[cell] + 1L);
            }
        }
        return total;
    }

    private static final class Generator {
        private static final int SEED_STEP = 0x9E3779B9;

        private int a;
        private int b;
        private int c;
        private int d;

        private Generator(int seed) {
            a = mixed(seed + SEED_STEP);
            b = mixed(seed + 2 * SEED_STEP);
            c = mixed(seed + 3 * SEED_STEP);
            d = mixed(seed + 4 * SEED_STEP);
            if ((a | b | c | d) == 0) {
                a = 1;
            }
        }

        private static int mixed(int z) {
            int x = z;
            x ^= x >>> 16;
            x *= 0x85EBCA6B;
            x ^= x >>> 13;
            x *= 0xC2B2AE35;
            x ^= x >>> 16;
            return x;
        }

        private int draw() {
            int answer = Integer.rotateLeft(b * 5, 7) * 9;
            int t = b << 9;
            c ^= a;
            d ^= b;
            b ^= c;
            a ^= d;
            c ^= t;
            d = Integer.rotateLeft(d, 11);
            return answer;
        }
    }

    private static final class Table {
        /** As C is a power of 2, the lowest bits of a number tell its cell. */
        private final int mask;
        private final int[] marks;
        private final int[] keys;
        private final int[] values;
        private final int[] words;
        private int count;

        private Table(int cells) {
            mask = cells - 1;
            marks = new int[cells];
            keys = new int[cells];
            values = new int[cells];
            words = new int[4];
            count = 0;
        }

        private void clear() {
            for (int cell = 0; cell <= mask; cell++) {
                marks[cell] = FREE;
            }
            count = 0;
        }

        private long hashOf(int n) {
            long k = joined(words[0], words[1]);
            long l = joined(words[2], words[3]);
            long m = joined(n, 0x04000000);
            long p = k ^ 0x736f6d6570736575L;
            long q = l ^ 0x646f72616e646f6dL;
            long r = k ^ 0x6c7967656e657261L;
            long s = l ^ 0x7465646279746573L ^ m;
            for (int round = 1; round <= 4; round++) {
                p += q;
                q = Long.rotateLeft(q, 13) ^ p;
                p = Long.rotateLeft(p, 32);
                r += s;
                s = Long.rotateLeft(s, 16) ^ r;
                p += s;
                s = Long.rotateLeft(s, 21) ^ p;
                r += q;
                q = Long.rotateLeft(q, 17) ^ r;
                r = Long.rotateLeft(r, 32);
                // The first round takes m in, the other three close the hash.
                if (round == 1) {
                    p ^= m;
                    r ^= 255L;
                }
            }
            return p ^ q ^ r ^ s;
        }

        private static long joined(int low, int high) {
            return ((long) high << 32) | (low & 0xFFFFFFFFL);
        }

        private int homeOf(int n) {
            return (int) hashOf(n) & mask;
        }

        private int cellOf(int key) {
            int cell = homeOf(key);
            for (int looked = 0; looked <= mask; looked++) {
                if (marks[cell] == FREE) {
                    return NOWHERE;
                }
                if (marks[cell] == KEYED && keys[cell] == key) {
                    return cell;
                }
                cell = (cell + 1) & mask;
            }
            return NOWHERE;
        }

        private int valueOf(int key) {
            int cell = cellOf(key);
            return cell == NOWHERE ? 0 : values[cell];
        }

        private void change(int key, int value) {
            int cell = cellOf(key);
            if (cell != NOWHERE) {
                values[cell] = value;
            }
        }

        /** Answers the run; as at most three quarters are bound, there is always a free cell. */
        private int place(int key, int value) {
            int cell = homeOf(key);
            int run = 1;
            while (run <= mask && marks[cell] != FREE) {
                cell = (cell + 1) & mask;
                run++;
            }
            fill(cell, key, value);
            count++;
            return run;
        }

        private void fill(int cell, int key, int value) {
            marks[cell] = KEYED;
            keys[cell] = key;
            values[cell] = value;
        }

        /** For the new table: what a look would no longer reach moves up, so no cell is ever gone. */
        private void takeOut(int cell) {
            int hole = cell;
            marks[hole] = FREE;
            count--;
            for (int ahead = 1; ahead <= mask; ahead++) {
                int next = (cell + ahead) & mask;
                if (marks[next] == FREE) {
                    break;
                }
                int fromHome = (next - homeOf(keys[next])) & mask;
                int fromHole = (next - hole) & mask;
                if (fromHome >= fromHole) {
                    fill(hole, keys[next], values[next]);
                    marks[next] = FREE;
                    hole = next;
                }
            }
        }

        /** For the old table: the cell stays marked, so a look for another int goes on past it. */
        private void markGone(int cell) {
            marks[cell] = GONE;
            count--;
        }

        private int markAt(int i) {
            return i >= 0 && i <= mask ? marks[i] : FREE;
        }

        /** The least key above bound, or nearest if that is nearer; nearest == bound is none yet. */
        private int nearestAbove(int bound, int nearest) {
            int best = nearest;
            for (int cell = 0; cell <= mask; cell++) {
                int key = keys[cell];
                if (marks[cell] == KEYED && key > bound && (best == bound || key < best)) {
                    best = key;
                }
            }
            return best;
        }
    }
}

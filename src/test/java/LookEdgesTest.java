/** The boundary cases of looks, of what is bound, and of how many may be, a sentence each. */
public final class LookEdgesTest extends Fixture {
    private LookEdgesTest() {
    }

    private static void looksGoRoundInTheNewTable() {
        Check.sentence("behind the last one comes cell 0 (new table)");
        KeyedCells x = wide();
        int[] keys = putByHomes(x, 7, 7, 7);
        due("nth(0)", x.nth(0), keys[1]);
        due("nth(1)", x.nth(1), keys[2]);
        due("get", x.get(keys[2]), 12);
        due("has", x.has(keys[1]), true);
        due("put again", x.put(keys[2], 5), 1);
        due("get again", x.get(keys[2]), 5);
        due("has none", x.has(OF8.key(7, 3)), false);
        due("remove", x.remove(keys[2]), true);
        dueCells("remove", x, false, "10000001");
    }

    private static void looksGoRoundInTheOldTable() {
        Check.sentence("behind the last one comes cell 0 (old table)");
        KeyedCells x = wide();
        int[] keys = putByHomes(x, 7, 7, 7, 7, 7, 7);
        x.rekey();
        dueCells("old", x, true, "11111001");
        due("get", x.get(keys[5]), 15);
        due("has", x.has(keys[1]), true);
        due("has none", x.has(OF8.key(7, 6)), false);
        due("put again", x.put(keys[5], 99), 1);
        dueCells("put made a step", x, true, "22221001");
        due("get again", x.get(keys[5]), 99);
        due("remove", x.remove(keys[5]), true);
        dueCells("remove", x, true, "22222001");
    }

    private static void looksGoRoundInEverySize() {
        Check.sentence("behind the last one comes cell 0 (every C)");
        for (int bits = 3; bits <= 7; bits++) {
            Homes homes = new Homes(SEED, bits);
            int last = (1 << bits) - 1;
            KeyedCells x = new KeyedCells(SEED, bits, 64);
            x.put(homes.key(last, 0), 1);
            x.put(homes.key(last, 1), 2);
            due("bits " + bits + ", nth(0)", x.nth(0), homes.key(last, 1));
            due("bits " + bits + ", get", x.get(homes.key(last, 1)), 2);
            x.rekey();
            due("bits " + bits + ", get in the old table", x.get(homes.key(last, 1)), 2);
        }
    }

    private static void looksEndAtAFreeCell() {
        Check.sentence("or is free (then it is not there)");
        KeyedCells x = wide();
        putByHomes(x, 0, 0, 2);
        int behind = OF8.key(0, 2);
        int free = OF8.key(3, 0);
        for (int absent : new int[] {behind, free}) {
            due("has", x.has(absent), false);
            due("get", x.get(absent), 0);
            due("remove", x.remove(absent), false);
        }
        dueCells("nothing was taken out", x, false, "11100000");
        due("put", x.put(behind, 9), 0);
        due("it comes where the look ended", x.nth(3), behind);
    }

    /** A quarter of the cells is always free, so no look goes over all: these are the longest. */
    private static void longestLooks() {
        Check.sentence("until one has it, or is free, or all were");
        KeyedCells x = wide();
        int[] keys = putByHomes(x, 5, 5, 5, 5, 5, 5);
        int absent = OF8.key(5, 6);
        due("get the last", x.get(keys[5]), 15);
        due("has none", x.has(absent), false);
        due("remove none", x.remove(absent), false);
        due("put none", x.put(absent, 1), 2);
        x.rekey();
        due("get the last in the old table", x.get(keys[5]), 15);
        due("has none in the old table", x.has(absent), false);
        x.migrateStep();
        dueCells("four are gone", x, true, "22200211");
        due("has none behind gone cells", x.has(absent), false);
        due("get none behind gone cells", x.get(absent), 0);
        due("remove none behind gone cells", x.remove(absent), false);
        due("size", x.size(), 6);
    }

    /** The limit keeps the runs of puts short, but those of steps can be as long as many are bound. */
    private static void longestLooksInEverySize() {
        Check.sentence("until one has it, or is free, or all were (every C)");
        for (int bits = 3; bits <= 7; bits++) {
            Homes homes = new Homes(SEED, bits);
            int cells = 1 << bits;
            int[] keys = new int[cells / 4 * 3];
            KeyedCells x = new KeyedCells(SEED, bits, 64);
            for (int i = 0; i < keys.length; i++) {
                keys[i] = homes.key(-1, cells - 2, i);
                x.put(keys[i], i + 1);
            }
            int absent = homes.key(-1, cells - 2, keys.length);
            rekeyAndMoveAll(x, keys.length);
            due("bits " + bits + ", the end of the run", x.filled(false, keys.length - 3), 1);
            dueValues("bits " + bits + ", new table", x, keys, absent);
            x.rekey();
            dueValues("bits " + bits + ", old table", x, keys, absent);
        }
    }

    private static void dueValues(String when, KeyedCells x, int[] keys, int absent) {
        for (int i = 0; i < keys.length; i++) {
            due(when + ", get of " + i, x.get(keys[i]), i + 1);
        }
        due(when + ", has none", x.has(absent), false);
        due(when + ", remove none", x.remove(absent), false);
    }

    private static void looksPassGoneCells() {
        Check.sentence("a cell is free, has a key, or is gone: a gone one ends no look");
        KeyedCells x = wide();
        int[] keys = putByHomes(x, 0, 0, 0, 0, 0, 0);
        x.rekey();
        due("remove", x.remove(keys[3]), true);
        due("get behind one", x.get(keys[4]), 14);
        due("put behind gone ones", x.put(keys[5], 7), 1);
        dueCells("the last is where it was", x, true, "22222100");
        due("get behind gone ones", x.get(keys[5]), 7);
        due("has behind gone ones", x.has(keys[5]), true);
        due("remove behind gone ones", x.remove(keys[5]), true);
        due("size", x.size(), 4);
    }

    private static void goneCellsHaveNothing() {
        Check.sentence("its cell is gone: it does not have the int any more");
        KeyedCells x = new KeyedCells(SEED, 4, 64);
        int[] keys = new int[12];
        for (int home = 0; home < 12; home++) {
            keys[home] = OF16.key(home, 0);
            x.put(keys[home], 20 + home);
        }
        x.rekey();
        due("remove in the old table", x.remove(keys[11]), true);
        due("has", x.has(keys[11]), false);
        due("get", x.get(keys[11]), 0);
        due("remove again", x.remove(keys[11]), false);
        due("migrateStep", x.migrateStep(), 7);
        due("remove one that moved", x.remove(keys[0]), true);
        due("has one that moved", x.has(keys[0]), false);
        due("get one that moved", x.get(keys[0]), 0);
        due("remove one that moved again", x.remove(keys[0]), false);
        due("put it anew", x.put(keys[0], 5), 0);
        dueCells("its cell stays gone", x, true, "2222222211120000");
        due("get", x.get(keys[0]), 5);
        due("size", x.size(), 11);
    }

    private static void onlyTheOldTableHasGoneCells() {
        Check.sentence("or (in the old table alone) is gone");
        KeyedCells x = wide();
        int[] keys = putByHomes(x, 0, 1, 2, 3, 4, 5);
        x.remove(keys[1]);
        dueCells("new", x, false, "10111100");
        x.rekey();
        dueCells("old: a free cell stays free", x, true, "10111100");
        x.remove(keys[2]);
        dueCells("old", x, true, "10211100");
        x.rekey();
        due("all are moved", x.size(), 4);
        dueCells("new, on the rows of the old one", x, false, "00000000");
        due("no gone cell in the next old one", cellsOf(x, true, 8).indexOf('2'), -1);
    }

    private static void theOldTableKeepsItsKey() {
        Check.sentence("the old one, which keeps the key that it had");
        KeyedCells x = wide();
        int[] keys = putByPairs(x, new int[][] {{0, 4}, {1, 5}, {2, 6}, {3, 7}, {4, 0}, {5, 1}});
        x.rekey();
        for (int i = 0; i < 6; i++) {
            due("get", x.get(keys[i]), 10 + i);
        }
        x.migrateStep();
        dueCells("new", x, false, "00001111");
        for (int i = 0; i < 6; i++) {
            due("get after a step", x.get(keys[i]), 10 + i);
            due("has after a step", x.has(keys[i]), true);
        }
        due("remove by the old key", x.remove(keys[4]), true);
        due("remove the last by the old key", x.remove(keys[5]), true);
    }

    private static void asManyAsMayBeBound() {
        Check.sentence("At most 3 * C / 4 ints are bound");
        int[] most = {6, 12, 24, 48, 96};
        for (int bits = 3; bits <= 7; bits++) {
            KeyedCells x = new KeyedCells(SEED, bits, 64);
            for (int key = 1; key <= most[bits - 3]; key++) {
                due("bits " + bits + ", put " + key, x.put(key, key), 0);
            }
            due("bits " + bits + ", size", x.size(), most[bits - 3]);
            due("bits " + bits + ", put one more", x.put(-5, 1), 2);
            due("bits " + bits + ", size then", x.size(), most[bits - 3]);
            due("bits " + bits + ", remove", x.remove(1), true);
            due("bits " + bits + ", put", x.put(-5, 1), 0);
            due("bits " + bits + ", put one more again", x.put(1, 1), 2);
        }
    }

    private static void boundInBothTables() {
        Check.sentence("An int is BOUND when one of them has it");
        KeyedCells x = new KeyedCells(SEED, 7, 64);
        for (int key = 0; key < 96; key++) {
            x.put(key, key);
        }
        x.rekey();
        due("put when the old table has 92", x.put(1000, 1), 2);
        due("the old table has", x.migrateStep(), 88);
        due("remove in one of both", x.remove(95), true);
        due("put the one that has room", x.put(1000, 1), 0);
        due("put one more", x.put(1001, 1), 2);
        due("size", x.size(), 96);
        due("the old table has less", x.migrateStep() < 88, true);
    }

    public static void main(String[] args) {
        looksGoRoundInTheNewTable();
        looksGoRoundInTheOldTable();
        looksGoRoundInEverySize();
        looksEndAtAFreeCell();
        longestLooks();
        longestLooksInEverySize();
        looksPassGoneCells();
        goneCellsHaveNothing();
        onlyTheOldTableHasGoneCells();
        theOldTableKeepsItsKey();
        asManyAsMayBeBound();
        boundInBothTables();
        Check.end();
    }
}

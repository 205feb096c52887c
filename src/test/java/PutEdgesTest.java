/** The boundary cases that promises 1 and 2 name, each sentence by a test of its own. */
public final class PutEdgesTest extends Fixture {
    private static final String NONE = "00000000";

    private PutEdgesTest() {
    }

    // Promise 1

    /** Whether an object made with these bits has so many cells. */
    private static void dueSize(int bits, int cells) {
        KeyedCells x = new KeyedCells(3, bits, 64);
        int most = cells / 4 * 3;
        for (int key = 0; key < most; key++) {
            due("bits " + bits + ", put " + key, x.put(key, key), 0);
        }
        due("bits " + bits + ", put one more", x.put(most, 0), 2);
        int seen = 0;
        for (int i = -2; i < cells + 2; i++) {
            seen += x.filled(false, i);
        }
        due("bits " + bits + ", filled", seen, most);
        int last = new Homes(3, Integer.numberOfTrailingZeros(cells)).key(cells - 1, 0);
        KeyedCells y = new KeyedCells(3, bits, 64);
        y.put(last, 1);
        due("bits " + bits + ", the last cell", y.nth(cells - 1), last);
    }

    private static void bitsTooSmall() {
        Check.sentence("bits at least 3");
        for (int bits : new int[] {2, 1, 0, -1, -29, -32, LOW, LOW + 3}) {
            dueSize(bits, 8);
        }
    }

    private static void bitsAtTheirBounds() {
        Check.sentence("C is 2^bits");
        dueSize(3, 8);
        dueSize(4, 16);
        dueSize(6, 64);
        dueSize(7, 128);
    }

    private static void bitsTooLarge() {
        Check.sentence("and at most 7");
        for (int bits : new int[] {8, 9, 30, 31, 32, 35, 39, HIGH}) {
            dueSize(bits, 128);
        }
    }

    /** Whether an object made with this limit keeps a run of so many, and not one more. */
    private static void dueLimit(int limit, int kept) {
        Homes homes = new Homes(5, 7);
        KeyedCells x = new KeyedCells(5, 7, limit);
        for (int i = 0; i < kept; i++) {
            due("limit " + limit + ", put", x.put(homes.key(100, i), i), 0);
        }
        due("limit " + limit + ", rekeys at it", x.rekeys(), 0);
        due("limit " + limit + ", probeMax at it", x.probeMax(), kept);
        due("limit " + limit + ", put over it", x.put(homes.key(100, kept), 1), 0);
        due("limit " + limit + ", rekeys over it", x.rekeys(), 1);
        due("limit " + limit + ", probeMax over it", x.probeMax(), 0);
        due("limit " + limit + ", get over it", x.get(homes.key(100, kept)), 1);
    }

    private static void limitTooSmall() {
        Check.sentence("the limit is limit, but at least 2");
        for (int limit : new int[] {1, 0, -1, -2, -64, LOW}) {
            dueLimit(limit, 2);
        }
    }

    private static void limitAtItsBounds() {
        Check.sentence("the limit is limit");
        dueLimit(2, 2);
        dueLimit(3, 3);
        dueLimit(63, 63);
        dueLimit(64, 64);
    }

    private static void limitTooLarge() {
        Check.sentence("the limit is limit, but at most 64");
        for (int limit : new int[] {65, 66, 128, 1000, HIGH}) {
            dueLimit(limit, 64);
        }
    }

    private static void nothingIsBound() {
        Check.sentence("The generator is seeded, the key drawn; nothing is bound");
        KeyedCells x = new KeyedCells(SEED, 3, 2);
        due("size", x.size(), 0);
        due("has(0)", x.has(0), false);
        due("has(-1)", x.has(-1), false);
        due("get(0)", x.get(0), 0);
        due("remove(0)", x.remove(0), false);
        due("above(LOW)", x.above(LOW), LOW);
        due("sum", x.sum(), 0);
        due("probeMax", x.probeMax(), 0);
        due("rekeys", x.rekeys(), 0);
        due("migrateStep", x.migrateStep(), 0);
        due("keyWord(0)", x.keyWord(0), 1004282400);
        dueCells("new", x, false, NONE);
        dueCells("old", x, true, NONE);
    }

    // Promise 2

    private static void putMakesItsStepFirst() {
        Check.sentence("A step is made");
        KeyedCells x = wide();
        int[] keys = putByPairs(x, new int[][] {{0, 3}, {1, 4}, {2, 5}, {3, 6}, {4, 0}});
        x.rekey();
        int late = OF8.key(-1, 3, 30);
        due("put", x.put(late, 1), 0);
        due("what the step moved is there first", x.nth(3), keys[0]);
        due("the put one comes behind", x.nth(7), late);
        due("its run", x.probeMax(), 5);
        dueCells("old", x, true, "22221000");
    }

    private static void putOfABoundOneInTheNewTable() {
        Check.sentence("If key is bound, its value is value now, where it is: 1 (new table)");
        KeyedCells x = new KeyedCells(SEED, 3, 2);
        int[] keys = putByHomes(x, 3, 4, 4);
        due("put", x.put(keys[2], -7), 1);
        due("put the same value", x.put(keys[2], -7), 1);
        due("get", x.get(keys[2]), -7);
        due("nth", x.nth(5), keys[2]);
        due("size", x.size(), 3);
        due("probeMax", x.probeMax(), 2);
        due("rekeys", x.rekeys(), 0);
        due("other values", x.get(keys[0]) + x.get(keys[1]), 21);
    }

    private static void putOfABoundOneInTheOldTable() {
        Check.sentence("If key is bound, its value is value now, where it is: 1 (old table)");
        KeyedCells x = wide();
        int[] keys = putByHomes(x, 0, 1, 2, 3, 4, 5);
        x.rekey();
        due("put", x.put(keys[4], -7), 1);
        dueCells("it stays in the old table", x, true, "22221100");
        due("get", x.get(keys[4]), -7);
        due("probeMax", x.probeMax(), 0);
        x.migrateStep();
        due("get after it moved", x.get(keys[4]), -7);
        due("size", x.size(), 6);
    }

    private static void putOfABoundOneThatTheStepMoves() {
        Check.sentence("If key is bound, its value is value now: 1 (the step moves it)");
        KeyedCells x = wide();
        int[] keys = putByHomes(x, 0, 1, 2, 3, 4, 5);
        x.rekey();
        due("put", x.put(keys[0], -7), 1);
        due("get", x.get(keys[0]), -7);
        due("size", x.size(), 6);
        due("remove", x.remove(keys[0]), true);
        due("has", x.has(keys[0]), false);
    }

    private static void putWhenFull() {
        Check.sentence("If as many are bound as may be: 2, and it is not");
        KeyedCells x = new KeyedCells(SEED, 3, 6);
        putByHomes(x, 0, 0, 0, 0, 0);
        due("the last one that may be", x.put(OF8.key(0, 5), 1), 0);
        long sum = x.sum();
        int one = OF8.key(0, 6);
        due("put", x.put(one, 1), 2);
        due("has", x.has(one), false);
        due("get", x.get(one), 0);
        due("size", x.size(), 6);
        due("sum", x.sum(), sum);
        due("probeMax", x.probeMax(), 6);
        due("rekeys", x.rekeys(), 0);
        dueCells("new", x, false, "11111100");
        due("put again", x.put(one, 1), 2);
    }

    private static void putOfABoundOneWhenFull() {
        Check.sentence("If key is bound .. 1 (before: if as many are bound as may be)");
        KeyedCells x = wide();
        int[] keys = putByHomes(x, 0, 1, 2, 3, 4, 5);
        for (int key : keys) {
            due("put", x.put(key, HIGH), 1);
            due("get", x.get(key), HIGH);
        }
        x.rekey();
        due("put in the old table", x.put(keys[5], LOW), 1);
        due("get", x.get(keys[5]), LOW);
    }

    private static void putWhenFullOverBothTables() {
        Check.sentence("If as many are bound as may be: 2 (in both tables together)");
        KeyedCells x = wide();
        putByHomes(x, 0, 1, 2, 3, 4);
        x.rekey();
        due("put the last that may be", x.put(900, 1), 0);
        dueCells("one is in the old table", x, true, "22221000");
        KeyedCells y = wide();
        int[] keys = putByHomes(y, 0, 1, 2, 3, 4, 5);
        y.rekey();
        due("put", y.put(900, 1), 2);
        dueCells("it made a step", y, true, "22221100");
        due("remove", y.remove(keys[5]), true);
        due("put", y.put(900, 1), 0);
        due("put", y.put(901, 1), 2);
        due("size", y.size(), 6);
    }

    private static void putWithRoomAgain() {
        Check.sentence("Otherwise it is put into the new table: 0 (one was taken out before)");
        KeyedCells x = wide();
        int[] keys = putByHomes(x, 0, 1, 2, 3, 4, 5);
        due("put", x.put(900, 1), 2);
        due("remove", x.remove(keys[0]), true);
        due("put", x.put(900, 1), 0);
        due("put the removed one", x.put(keys[0], 1), 2);
    }

    private static void runAsLongAsTheLimit() {
        Check.sentence("if its run is longer than the limit (it is as long)");
        for (int limit = 2; limit <= 6; limit++) {
            KeyedCells x = new KeyedCells(SEED, 3, limit);
            for (int i = 0; i < limit; i++) {
                due("limit " + limit + ", put", x.put(OF8.key(6, i), i), 0);
            }
            due("limit " + limit + ", rekeys", x.rekeys(), 0);
            due("limit " + limit + ", probeMax", x.probeMax(), limit);
        }
    }

    private static void runLongerThanTheLimit() {
        Check.sentence("if its run is longer than the limit, it is rekeyed then (by one)");
        for (int limit = 2; limit <= 5; limit++) {
            KeyedCells x = new KeyedCells(SEED, 3, limit);
            for (int i = 0; i <= limit; i++) {
                due("limit " + limit + ", put", x.put(OF8.key(0, i), i), 0);
            }
            due("limit " + limit + ", rekeys", x.rekeys(), 1);
            due("limit " + limit + ", probeMax", x.probeMax(), 0);
            due("limit " + limit + ", get", x.get(OF8.key(0, limit)), limit);
            due("limit " + limit + ", size", x.size(), limit + 1);
            due("limit " + limit + ", keyWord", x.keyWord(0), -1865434569);
            dueCells("limit " + limit + ", new", x, false, NONE);
            dueCells("limit " + limit + ", old", x, true, "11111111".substring(0, limit + 1));
            due("limit " + limit + ", no more in the old", x.filled(true, limit + 1), 0);
        }
    }

    private static void rekeyedForTheLastThatMayBe() {
        Check.sentence("it is rekeyed then (as many are bound as may be)");
        KeyedCells x = new KeyedCells(SEED, 3, 5);
        putByHomes(x, 4, 4, 4, 4, 4, 4);
        due("rekeys", x.rekeys(), 1);
        due("size", x.size(), 6);
        due("put one more", x.put(900, 1), 2);
        due("old", x.migrateStep(), 0);
        due("size", x.size(), 6);
    }

    private static void refusedPutsAreNotRekeyedFor() {
        Check.sentence("2, and it is not (its run would be longer than the limit)");
        KeyedCells x = new KeyedCells(SEED, 3, 2);
        putByHomes(x, 0, 1, 2, 3, 4, 5);
        due("put", x.put(OF8.key(0, 1), 1), 2);
        due("rekeys", x.rekeys(), 0);
        due("probeMax", x.probeMax(), 1);
    }

    private static void stepsAreNotRekeyedFor() {
        Check.sentence("if its run is longer than the limit (an int that a step puts there)");
        KeyedCells x = new KeyedCells(SEED, 3, 2);
        putByPairs(x, new int[][] {{0, 3}, {1, 3}, {2, 3}, {3, 3}, {4, 3}, {5, 3}});
        x.rekey();
        due("step", x.migrateStep(), 2);
        dueCells("new", x, false, "00011110");
        due("rekeys", x.rekeys(), 1);
        due("step", x.migrateStep(), 0);
        due("rekeys", x.rekeys(), 1);
        dueCells("no old table", x, true, NONE);
    }

    private static void rekeyedWhileTheOldTableHasInts() {
        Check.sentence("it is rekeyed then (the old table has ints yet)");
        KeyedCells x = new KeyedCells(SEED, 3, 2);
        int[] keys = putByPairs(x, new int[][] {{0, 3}, {1, 3}, {2, 3}, {3, 3}, {4, 0}});
        x.rekey();
        int late = OF8.key(-1, 3, 30);
        due("put", x.put(late, 77), 0);
        due("rekeys", x.rekeys(), 2);
        dueCells("all are in the old table", x, true, "10011111");
        dueCells("new", x, false, NONE);
        due("get", x.get(late), 77);
        for (int i = 0; i < 5; i++) {
            due("get", x.get(keys[i]), 10 + i);
        }
    }

    private static void keysAndValuesAtTheirBounds() {
        Check.sentence("int put(int key, int value)");
        KeyedCells x = wide();
        int[] edges = {0, -1, 1, LOW, HIGH};
        for (int key : edges) {
            due("put(" + key + ")", x.put(key, 3), 0);
            for (int value : edges) {
                due("put(" + key + ", " + value + ")", x.put(key, value), 1);
                due("get(" + key + ")", x.get(key), value);
            }
        }
        due("size", x.size(), 5);
    }

    public static void main(String[] args) {
        bitsTooSmall();
        bitsAtTheirBounds();
        bitsTooLarge();
        limitTooSmall();
        limitAtItsBounds();
        limitTooLarge();
        nothingIsBound();
        putMakesItsStepFirst();
        putOfABoundOneInTheNewTable();
        putOfABoundOneInTheOldTable();
        putOfABoundOneThatTheStepMoves();
        putWhenFull();
        putOfABoundOneWhenFull();
        putWhenFullOverBothTables();
        putWithRoomAgain();
        runAsLongAsTheLimit();
        runLongerThanTheLimit();
        rekeyedForTheLastThatMayBe();
        refusedPutsAreNotRekeyedFor();
        stepsAreNotRekeyedFor();
        rekeyedWhileTheOldTableHasInts();
        keysAndValuesAtTheirBounds();
        Check.end();
    }
}

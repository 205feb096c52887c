/** The boundary cases of steps, of the run and of rekeying, a sentence of the document each. */
public final class StepEdgesTest extends Fixture {
    private static final String NONE = "00000000";

    private StepEdgesTest() {
    }

    /** An object with so many ints in its old table, keyed from 0 on, and none in the new one. */
    private static KeyedCells withOld(int bits, int count) {
        KeyedCells x = new KeyedCells(SEED, bits, 64);
        for (int key = 0; key < count; key++) {
            x.put(key, 100 + key);
        }
        x.rekey();
        return x;
    }

    private static int countOf(KeyedCells x, boolean old, int cells, char mark) {
        return (int) cellsOf(x, old, cells).chars().filter(c -> c == mark).count();
    }

    private static void dueNoOldTable(String when, KeyedCells x) {
        dueCells(when, x, true, NONE);
        due(when + ": migrateStep", x.migrateStep(), 0);
    }

    // A step

    private static void fewerThanFour() {
        Check.sentence("as long as fewer than four were moved and the old table has any");
        for (int count = 0; count <= 12; count++) {
            KeyedCells x = withOld(4, count);
            int left = Math.max(0, count - 4);
            due("step of " + count, x.migrateStep(), left);
            due("moved of " + count, countOf(x, false, 16, '1'), count - left);
            due("left of " + count, countOf(x, true, 16, '1'), left);
            due("gone of " + count, countOf(x, true, 16, '2'), left == 0 ? 0 : 4);
            due("size of " + count, x.size(), count);
        }
    }

    private static void stepsToTheLast() {
        Check.sentence("as long as the old table has any (step by step)");
        for (int count : new int[] {1, 4, 5, 93, 95, 96}) {
            KeyedCells x = withOld(7, count);
            for (int left = count - 4; left > -8; left -= 4) {
                due("step of " + count, x.migrateStep(), Math.max(0, left));
            }
            due("size of " + count, x.size(), count);
            due("get of " + count, x.get(count - 1), 99 + count);
        }
    }

    private static void stepWithoutAnOldTable() {
        Check.sentence("A STEP: the old table has none");
        KeyedCells x = wide();
        int[] keys = putByHomes(x, 2, 2, 7, 7);
        long sum = x.sum();
        due("step", x.migrateStep(), 0);
        dueCells("new", x, false, "10110001");
        due("nth(0)", x.nth(0), keys[3]);
        due("probeMax", x.probeMax(), 2);
        due("sum", x.sum(), sum);
    }

    private static void byCellsFromZero() {
        Check.sentence("the next one, by cells from 0 on");
        KeyedCells x = wide();
        int[] keys = putByPairs(x, new int[][] {{7, 2}, {7, 2}, {5, 2}, {3, 2}, {1, 2}, {4, 2}});
        x.rekey();
        dueCells("old", x, true, "11011101");
        due("step", x.migrateStep(), 2);
        dueCells("old after a step", x, true, "22022101");
        due("the one that went round to cell 0", x.nth(2), keys[1]);
        due("cell 1", x.nth(3), keys[4]);
        due("cell 3, for 2 is free", x.nth(4), keys[3]);
        due("cell 4", x.nth(5), keys[5]);
        due("step", x.migrateStep(), 0);
        due("cell 5", x.nth(6), keys[2]);
        due("the last cell", x.nth(7), keys[0]);
    }

    private static void goneOnesAreNotMoved() {
        Check.sentence("the next one is gone from it (a gone cell is no next one)");
        KeyedCells x = wide();
        int[] keys = putByHomes(x, 0, 1, 2, 3, 4, 5);
        x.rekey();
        x.remove(keys[0]);
        x.remove(keys[2]);
        due("step", x.migrateStep(), 0);
        due("size", x.size(), 4);
        due("has", x.has(keys[0]), false);
        due("has", x.has(keys[2]), false);
        due("moved", countOf(x, false, 8, '1'), 4);
    }

    private static void firstFreeCellGoesRound() {
        Check.sentence("is put into the new table, in the first free cell from its home on");
        KeyedCells x = wide();
        int[] keys = putByPairs(x, new int[][] {{0, 7}, {1, 7}, {2, 0}, {3, 6}, {4, 6}});
        x.rekey();
        due("step", x.migrateStep(), 1);
        due("home 7", x.nth(7), keys[0]);
        due("home 7 again: cell 0", x.nth(0), keys[1]);
        due("home 0: cell 1", x.nth(1), keys[2]);
        due("home 6", x.nth(6), keys[3]);
        due("step", x.migrateStep(), 0);
        due("home 6 again: cell 2", x.nth(2), keys[4]);
        due("its value", x.get(keys[4]), 14);
    }

    private static void behindOneThatWasPut() {
        Check.sentence("the first free cell from its home on (a put() was there first)");
        KeyedCells x = wide();
        int[] keys = putByPairs(x, new int[][] {{0, 0}, {1, 0}, {2, 0}, {3, 0}, {4, 5}});
        x.rekey();
        int late = OF8.key(-1, 5, 20);
        due("put", x.put(late, 1), 0);
        due("it is first", x.nth(5), late);
        due("step", x.migrateStep(), 0);
        due("behind it", x.nth(6), keys[4]);
        due("probeMax", x.probeMax(), 1);
    }

    // There is no old table from then on

    private static void emptiedByAStep() {
        Check.sentence("Whenever the old table has no int any more, in a step");
        for (int count = 1; count <= 4; count++) {
            KeyedCells x = withOld(3, count);
            due("step of " + count, x.migrateStep(), 0);
            dueNoOldTable("step of " + count, x);
            due("rekey after a step of " + count, x.rekey(), 0);
        }
    }

    private static void emptiedByTheStepOfAPut() {
        Check.sentence("Whenever the old table has no int any more, in a step (of a put)");
        KeyedCells x = withOld(3, 4);
        due("put of a new one", x.put(50, 1), 0);
        dueNoOldTable("put of a new one", x);
        KeyedCells y = withOld(3, 4);
        due("put of a bound one", y.put(3, 1), 1);
        dueNoOldTable("put of a bound one", y);
        KeyedCells z = withOld(3, 6);
        due("refused put", z.put(50, 1), 2);
        due("left", countOf(z, true, 8, '1'), 2);
        due("refused put", z.put(50, 1), 2);
        dueNoOldTable("refused put", z);
    }

    private static void emptiedByARemove() {
        Check.sentence("Whenever the old table has no int any more, when one is taken out");
        KeyedCells x = withOld(3, 1);
        due("remove the only one", x.remove(0), true);
        dueNoOldTable("remove the only one", x);
        due("rekey", x.rekey(), 0);
        KeyedCells y = withOld(3, 6);
        y.migrateStep();
        int[] left = new int[2];
        int found = 0;
        for (int key = 0; key < 6; key++) {
            boolean moved = false;
            for (int cell = 0; cell < 8; cell++) {
                moved |= y.filled(false, cell) == 1 && y.nth(cell) == key;
            }
            if (!moved && found < 2) {
                left[found++] = key;
            }
        }
        due("remove the last but one", y.remove(left[0]), true);
        due("one is left", countOf(y, true, 8, '1'), 1);
        due("five are gone", countOf(y, true, 8, '2'), 5);
        due("remove the last", y.remove(left[1]), true);
        dueNoOldTable("remove the last", y);
        due("size", y.size(), 4);
        due("rekey moves none", y.rekey(), 0);
        due("the old table has the four", countOf(y, true, 8, '1'), 4);
    }

    private static void noOldTableFromThenOn() {
        Check.sentence("there is no old table from then on");
        KeyedCells x = withOld(3, 4);
        x.migrateStep();
        due("remove", x.remove(2), true);
        dueCells("after a remove", x, true, NONE);
        due("put", x.put(2, 5), 0);
        dueCells("after a put", x, true, NONE);
        due("put again", x.put(2, 6), 1);
        dueCells("after another put", x, true, NONE);
        due("size", x.size(), 4);
        due("above", x.above(3), 3);
    }

    // The run

    private static void shortestRun() {
        Check.sentence("how many cells were looked at, the one into which it came included (one)");
        KeyedCells x = wide();
        due("probeMax", x.probeMax(), 0);
        putByHomes(x, 7);
        due("probeMax", x.probeMax(), 1);
        putByHomes(x, 0);
        due("a run of 1 again", x.probeMax(), 1);
    }

    private static void longestRun() {
        Check.sentence("how many cells were looked at (as many as may be bound, going round)");
        KeyedCells x = wide();
        for (int i = 0; i < 6; i++) {
            x.put(OF8.key(5, i), i);
            due("probeMax", x.probeMax(), i + 1);
        }
        due("the last came to cell 2", x.nth(2), OF8.key(5, 5));
    }

    // Rekeying

    private static void rekeyOfNone() {
        Check.sentence("the new table becomes the old one (none, if it has no ints)");
        KeyedCells x = wide();
        due("rekey", x.rekey(), 0);
        dueNoOldTable("new object", x);
        due("rekeys", x.rekeys(), 1);
        due("a key is drawn", x.keyWord(0), -1865434569);
        x.put(1, 1);
        x.remove(1);
        due("rekey", x.rekey(), 0);
        dueNoOldTable("all were removed", x);
        due("rekeys", x.rekeys(), 2);
        due("probeMax", x.probeMax(), 0);
        KeyedCells y = withOld(3, 3);
        for (int key = 0; key < 3; key++) {
            y.remove(key);
        }
        due("rekey", y.rekey(), 0);
        dueNoOldTable("all were removed from the old one", y);
    }

    private static void rekeyOfOne() {
        Check.sentence("the new table becomes the old one (one int)");
        KeyedCells x = wide();
        int[] keys = putByHomes(x, 7);
        due("rekey", x.rekey(), 0);
        dueCells("old", x, true, "00000001");
        dueCells("new", x, false, NONE);
        due("get", x.get(keys[0]), 10);
        due("rekey", x.rekey(), 1);
        due("get", x.get(keys[0]), 10);
    }

    private static void rekeyMakesEveryStep() {
        Check.sentence("steps are made until there is no old table");
        for (int count : new int[] {1, 3, 4, 5, 8, 9, 95, 96}) {
            KeyedCells x = withOld(7, count);
            due("rekey of " + count, x.rekey(), count);
            due("old of " + count, countOf(x, true, 128, '1'), count);
            due("gone of " + count, countOf(x, true, 128, '2'), 0);
            due("new of " + count, countOf(x, false, 128, '1'), 0);
            due("size of " + count, x.size(), count);
        }
    }

    private static void rekeyWithBothTables() {
        Check.sentence("steps are made; the new table becomes the old one (both have ints)");
        KeyedCells x = withOld(3, 5);
        due("put", x.put(50, 1), 0);
        due("rekey", x.rekey(), 1);
        due("old", countOf(x, true, 8, '1'), 6);
        due("no gone ones", countOf(x, true, 8, '2'), 0);
        dueCells("new", x, false, NONE);
        due("get", x.get(50), 1);
    }

    private static void longestRunIsZero() {
        Check.sentence("the longest run is 0");
        KeyedCells x = wide();
        putByHomes(x, 3, 3, 3);
        due("probeMax", x.probeMax(), 3);
        x.rekey();
        due("probeMax", x.probeMax(), 0);
        x.rekey();
        due("probeMax of the steps", x.probeMax(), 0);
    }

    /** Eight draws make two keys; nothing else draws. */
    private static void onlyRekeyingDraws() {
        Check.sentence("a new key is drawn");
        KeyedCells x = wide();
        for (int key = 0; key < 8; key++) {
            x.put(key, 1);
        }
        x.remove(0);
        x.migrateStep();
        due("the first word", x.keyWord(0), 1004282400);
        due("the fourth word", x.keyWord(3), 741806228);
        x.rekey();
        due("the fifth word", x.keyWord(0), -1865434569);
        x.migrateStep();
        due("the fifth word still", x.keyWord(0), -1865434569);
    }

    public static void main(String[] args) {
        fewerThanFour();
        stepsToTheLast();
        stepWithoutAnOldTable();
        byCellsFromZero();
        goneOnesAreNotMoved();
        firstFreeCellGoesRound();
        behindOneThatWasPut();
        emptiedByAStep();
        emptiedByTheStepOfAPut();
        emptiedByARemove();
        noOldTableFromThenOn();
        shortestRun();
        longestRun();
        rekeyOfNone();
        rekeyOfOne();
        rekeyMakesEveryStep();
        rekeyWithBothTables();
        longestRunIsZero();
        onlyRekeyingDraws();
        Check.end();
    }
}

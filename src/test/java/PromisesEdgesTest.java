import java.util.Arrays;

/** The boundary cases that promises 3 to 17 name, each sentence by a test of its own. */
public final class PromisesEdgesTest extends Fixture {
    private static final String NONE = "00000000";
    private static final int[] NO_CELL_OF_8 = {-1, 8, 9, 16, 127, 128, -8, LOW, LOW + 1, HIGH};

    private PromisesEdgesTest() {
    }

    // Promises 3 to 6

    private static void getOfNone() {
        Check.sentence("The value of key; 0 when it is not bound");
        KeyedCells x = wide();
        due("get of none", x.get(0), 0);
        int[] keys = putByHomes(x, 0, 0);
        due("get with the same home", x.get(OF8.key(0, 2)), 0);
        due("get of another free home", x.get(OF8.key(5, 0)), 0);
        due("get(0) with free cells", x.get(0), 0);
        x.remove(keys[0]);
        due("get of a removed one", x.get(keys[0]), 0);
        x.rekey();
        x.remove(keys[1]);
        due("get of one removed from the old table", x.get(keys[1]), 0);
    }

    private static void hasOfValueZero() {
        Check.sentence("Whether key is bound (its value is 0)");
        KeyedCells x = wide();
        due("has", x.has(0), false);
        x.put(0, 0);
        due("has", x.has(0), true);
        due("get", x.get(0), 0);
        due("has another", x.has(1), false);
        x.rekey();
        due("has in the old table", x.has(0), true);
        x.remove(0);
        due("has", x.has(0), false);
    }

    private static void asksChangeNothing() {
        Check.sentence("The value of key; whether key is bound (no step is made)");
        KeyedCells x = wide();
        int[] keys = putByHomes(x, 0, 1, 2, 3, 4, 5);
        x.rekey();
        x.get(keys[0]);
        x.has(keys[0]);
        x.size();
        x.probeMax();
        x.hashLo(keys[0]);
        x.hashHi(keys[0]);
        x.keyWord(0);
        x.nth(0);
        x.above(keys[0]);
        x.sum();
        x.rekeys();
        due("remove", x.remove(900), false);
        due("remove", x.remove(keys[5]), true);
        dueCells("old", x, true, "11111200");
        dueCells("new", x, false, NONE);
    }

    private static void removeOfOneNotBound() {
        Check.sentence("false when it is not bound");
        KeyedCells x = wide();
        due("remove of none", x.remove(0), false);
        int[] keys = putByHomes(x, 0, 0, 1);
        due("remove with the same home", x.remove(OF8.key(0, 2)), false);
        dueCells("new", x, false, "11100000");
        due("remove", x.remove(keys[0]), true);
        due("remove again", x.remove(keys[0]), false);
        x.rekey();
        due("remove of none in the old table", x.remove(keys[0]), false);
        due("remove in the old table", x.remove(keys[1]), true);
        due("remove in the old table again", x.remove(keys[1]), false);
        due("size", x.size(), 1);
    }

    private static void removeOfAll() {
        Check.sentence("Key is taken out of the table that has it: true (each that is bound)");
        KeyedCells x = wide();
        int[] keys = putByHomes(x, 6, 6, 6, 6, 6, 6);
        x.rekey();
        x.migrateStep();
        for (int i = 5; i >= 0; i--) {
            due("remove", x.remove(keys[i]), true);
            due("size", x.size(), i);
        }
        dueCells("new", x, false, NONE);
        dueCells("old", x, true, NONE);
        due("put", x.put(keys[0], 1), 0);
    }

    private static void sizesAtTheirBounds() {
        Check.sentence("How many ints are bound");
        KeyedCells x = wide();
        due("none", x.size(), 0);
        for (int i = 1; i <= 8; i++) {
            x.put(i, 1);
            due("size", x.size(), Math.min(i, 6));
        }
        x.put(1, 2);
        due("a bound one put again", x.size(), 6);
        x.rekey();
        due("all in the old table", x.size(), 6);
        x.migrateStep();
        due("in both", x.size(), 6);
        x.remove(900);
        due("none removed", x.size(), 6);
    }

    // Promise 7

    private static void probeMaxOfNoPut() {
        Check.sentence("The longest run that a put() had since it was rekeyed last (none had)");
        KeyedCells x = wide();
        due("new", x.probeMax(), 0);
        putByHomes(x, 1, 1);
        x.rekey();
        due("rekeyed", x.probeMax(), 0);
        x.put(OF8.key(1, 0), 5);
        due("a bound one was put", x.probeMax(), 0);
        x.remove(OF8.key(1, 0));
        due("one was removed", x.probeMax(), 0);
        x.put(OF8.key(-1, 4, 9), 5);
        due("one was put", x.probeMax() > 0, true);
    }

    private static void probeMaxAfterRemove() {
        Check.sentence("The longest run that a put() had (the int is bound no more)");
        KeyedCells x = wide();
        int[] keys = putByHomes(x, 1, 1, 1, 1);
        for (int key : keys) {
            x.remove(key);
        }
        due("all removed", x.probeMax(), 4);
        x.put(keys[0], 1);
        due("a shorter run", x.probeMax(), 4);
    }

    private static void probeMaxOfTheRunRekeyedFor() {
        Check.sentence("the run that it was rekeyed for counts no more");
        KeyedCells x = new KeyedCells(SEED, 3, 2);
        putByHomes(x, 1, 1);
        due("before", x.probeMax(), 2);
        x.put(OF8.key(1, 2), 1);
        due("rekeys", x.rekeys(), 1);
        due("after", x.probeMax(), 0);
    }

    private static void probeMaxOfSteps() {
        Check.sentence("ints that a step puts there do not count");
        KeyedCells x = wide();
        putByPairs(x, new int[][] {{0, 3}, {1, 3}, {2, 3}, {3, 3}, {4, 3}});
        x.rekey();
        x.migrateStep();
        dueCells("new", x, false, "00011110");
        due("after a step", x.probeMax(), 0);
        x.put(OF8.key(-1, 0, 40), 1);
        dueCells("the fifth has moved, the put one is in its home", x, false, "10011111");
        due("the run of the put alone", x.probeMax(), 1);
    }

    // Promises 8 and 9

    private static void rekeyAnswers() {
        Check.sentence("Answers how many were moved in the steps before");
        KeyedCells x = wide();
        due("no ints", x.rekey(), 0);
        putByPairs(x, new int[][] {{-1, 0}, {-1, 1}, {-1, 2}, {-1, 3}, {-1, 4}, {-1, 5}});
        due("no old table", x.rekey(), 0);
        due("all in the old table", x.rekey(), 6);
        due("step", x.migrateStep(), 2);
        due("two in the old table", x.rekey(), 2);
        due("rekeys", x.rekeys(), 4);
        due("size", x.size(), 6);
    }

    private static void migrateStepAnswers() {
        Check.sentence("Answers how many the old table has then; 0 when there is none");
        KeyedCells x = wide();
        due("new", x.migrateStep(), 0);
        int[] keys = putByHomes(x, 0, 1, 2, 3, 4, 5);
        due("no old table", x.migrateStep(), 0);
        x.rekey();
        due("six", x.migrateStep(), 2);
        due("remove", x.remove(keys[5]), true);
        due("one", x.migrateStep(), 0);
        due("none", x.migrateStep(), 0);
        due("size", x.size(), 5);
    }

    // Promises 10 to 12

    private static void hashesAreOfTheNewTable() {
        Check.sentence("The low half, the high half of the hash by the new table's key");
        KeyedCells x = wide();
        due("hashLo(0)", x.hashLo(0), -44023154);
        due("hashHi(0)", x.hashHi(0), 1370281787);
        x.put(0, 1);
        due("hashLo(0), bound", x.hashLo(0), -44023154);
        x.rekey();
        int[] words = Homes.wordsOf(x);
        due("hashLo(0), rekeyed", x.hashLo(0), (int) Reference.hash(words, 0));
        due("hashHi(0), rekeyed", x.hashHi(0), (int) (Reference.hash(words, 0) >> 32));
        due("another hash", x.hashLo(0) == -44023154, false);
    }

    private static void keyWordsAtTheirBounds() {
        Check.sentence("Word i of the new table's key (0 .. 3)");
        KeyedCells x = wide();
        due("keyWord(0)", x.keyWord(0), 1004282400);
        due("keyWord(3)", x.keyWord(3), 741806228);
        x.put(1, 1);
        x.rekey();
        due("keyWord(0), rekeyed", x.keyWord(0), -1865434569);
    }

    private static void keyWordsOutside() {
        Check.sentence("0 when i is not 0 .. 3");
        KeyedCells x = wide();
        for (int i : new int[] {-1, -2, -4, 4, 5, 8, LOW, LOW + 1, HIGH}) {
            due("keyWord(" + i + ")", x.keyWord(i), 0);
        }
    }

    // Promises 13 and 14

    private static void nthOutside() {
        Check.sentence("-1 when there is none (no such cell)");
        KeyedCells x = wide();
        putByHomes(x, 0, 7);
        for (int i : NO_CELL_OF_8) {
            due("nth(" + i + ")", x.nth(i), -1);
        }
    }

    private static void nthOfAFreeCell() {
        Check.sentence("-1 when there is none (the cell is free)");
        KeyedCells x = wide();
        due("new", x.nth(0), -1);
        int[] keys = putByHomes(x, 0, 7);
        due("nth(1)", x.nth(1), -1);
        due("nth(6)", x.nth(6), -1);
        x.remove(keys[0]);
        due("removed", x.nth(0), -1);
        x.rekey();
        due("in the old table", x.nth(7), -1);
    }

    private static void nthOfTheFirstAndTheLastCell() {
        Check.sentence("The key in cell i of the new table");
        KeyedCells x = wide();
        int[] keys = putByHomes(x, 0, 7);
        due("nth(0)", x.nth(0), keys[0]);
        due("nth(7)", x.nth(7), keys[1]);
    }

    private static void nthOfKeyMinusOne() {
        Check.sentence("to be read with filled()");
        KeyedCells x = wide();
        x.put(-1, 9);
        due("nth(1)", x.nth(1), -1);
        due("filled(1)", x.filled(false, 1), 1);
        due("nth(2)", x.nth(2), -1);
        due("filled(2)", x.filled(false, 2), 0);
    }

    private static void filledOutside() {
        Check.sentence("0 when there is none such (no such cell)");
        KeyedCells x = wide();
        putByHomes(x, 0, 7, 1, 6, 2);
        for (int i : NO_CELL_OF_8) {
            due("filled(false, " + i + ")", x.filled(false, i), 0);
        }
        x.rekey();
        for (int i : NO_CELL_OF_8) {
            due("filled(true, " + i + ")", x.filled(true, i), 0);
        }
        x.migrateStep();
        for (int i : NO_CELL_OF_8) {
            due("filled(true, " + i + "), moving", x.filled(true, i), 0);
        }
    }

    private static void filledOfNoOldTable() {
        Check.sentence("0 when there is none such (no old table)");
        KeyedCells x = wide();
        int[] keys = putByHomes(x, 0, 7);
        dueCells("never rekeyed", x, true, NONE);
        x.rekey();
        x.migrateStep();
        dueCells("all have moved", x, true, NONE);
        x.rekey();
        x.remove(keys[0]);
        x.remove(keys[1]);
        dueCells("all were taken out", x, true, NONE);
    }

    private static void filledOfEachKind() {
        Check.sentence("1 when it has a key, 2 when it is gone; 0 when it is free");
        KeyedCells x = wide();
        int[] keys = putByHomes(x, 0, 1, 6, 7);
        dueCells("new", x, false, "11000011");
        x.rekey();
        x.remove(keys[0]);
        x.remove(keys[3]);
        dueCells("old", x, true, "21000012");
        dueCells("new", x, false, NONE);
    }

    // Promise 15

    private static void aboveNone() {
        Check.sentence("key itself when there is none");
        KeyedCells x = wide();
        for (int key : new int[] {LOW, -1, 0, 5, HIGH}) {
            due("above(" + key + ") of none", x.above(key), key);
        }
        x.put(5, 1);
        due("above the only one", x.above(5), 5);
        due("above all", x.above(6), 6);
        due("above(HIGH)", x.above(HIGH), HIGH);
        x.put(HIGH, 1);
        due("above(HIGH), bound", x.above(HIGH), HIGH);
        x.remove(5);
        x.remove(HIGH);
        due("above(4), removed", x.above(4), 4);
    }

    private static void aboveIsStrictlyAbove() {
        Check.sentence("The least int above key that is bound");
        KeyedCells x = wide();
        for (int key : new int[] {LOW, LOW + 1, -1, 0, HIGH}) {
            x.put(key, 1);
        }
        for (int time = 0; time < 4; time++) {
            due("above(LOW)", x.above(LOW), LOW + 1);
            due("above(LOW + 1)", x.above(LOW + 1), -1);
            due("above(-2)", x.above(-2), -1);
            due("above(-1)", x.above(-1), 0);
            due("above(0)", x.above(0), HIGH);
            due("above(HIGH - 1)", x.above(HIGH - 1), HIGH);
            if (time == 0) {
                x.rekey();
            } else {
                x.migrateStep();
            }
        }
    }

    private static void aboveInEitherTable() {
        Check.sentence("The least int above key that is bound (the old table or the new one)");
        KeyedCells x = wide();
        int[] keys = putByHomes(x, 0, 1, 2, 3, 4, 5);
        int[] sorted = keys.clone();
        Arrays.sort(sorted);
        x.rekey();
        for (int time = 0; time < 3; time++) {
            due("above all", x.above(sorted[5]), sorted[5]);
            for (int i = 0; i < 5; i++) {
                due("above(" + sorted[i] + ")", x.above(sorted[i]), sorted[i + 1]);
                due("above one less", x.above(sorted[i] - 1), sorted[i]);
            }
            x.migrateStep();
        }
    }

    private static void aboveOfGoneOnes() {
        Check.sentence("The least int above key that is bound (gone ones are not)");
        KeyedCells x = wide();
        x.put(10, 1);
        x.put(20, 1);
        x.put(30, 1);
        x.rekey();
        x.remove(20);
        due("above(10)", x.above(10), 30);
        x.remove(30);
        due("above(10)", x.above(10), 10);
    }

    // Promise 16

    private static void sumOfNone() {
        Check.sentence("The sum over all that are bound (none is)");
        KeyedCells x = wide();
        due("new", x.sum(), 0);
        x.put(1, 5);
        x.remove(1);
        due("removed", x.sum(), 0);
        x.put(1, 5);
        x.rekey();
        x.remove(1);
        due("removed from the old table", x.sum(), 0);
    }

    private static void sumOfOne() {
        Check.sentence("hash * (2 * value + 1), as longs that wrap");
        long hash = 5885315465720382094L;
        for (int value : new int[] {0, -1, 1, 1 << 30, -(1 << 30) - 1, LOW, HIGH}) {
            KeyedCells x = wide();
            x.put(0, value);
            due("value " + value, x.sum(), hash * (2L * value + 1L));
        }
        KeyedCells y = wide();
        y.put(LOW, 0);
        due("a hash below 0", y.sum(), -3197711810680980371L);
        y.put(0, 0);
        due("both", y.sum(), 2687603655039401723L);
    }

    private static void sumByTheNewKey() {
        Check.sentence("by the new table's key");
        KeyedCells x = wide();
        int[] keys = putByHomes(x, 0, 1, 2, 3, 4, 5);
        x.rekey();
        int[] words = Homes.wordsOf(x);
        long want = 0;
        for (int i = 0; i < 6; i++) {
            want += Reference.hash(words, keys[i]) * (2L * (10 + i) + 1L);
        }
        due("all in the old table", x.sum(), want);
        x.migrateStep();
        due("in both", x.sum(), want);
        x.migrateStep();
        due("all in the new table", x.sum(), want);
    }

    // Promise 17

    private static void rekeysOfEachKind() {
        Check.sentence("How many times it was rekeyed");
        KeyedCells x = new KeyedCells(SEED, 3, 2);
        due("new", x.rekeys(), 0);
        putByHomes(x, 1, 1, 1);
        due("by a put", x.rekeys(), 1);
        x.rekey();
        due("by a rekey", x.rekeys(), 2);
        KeyedCells y = wide();
        y.rekey();
        due("of none", y.rekeys(), 1);
    }

    // An object is used for at most 512 calls

    private static void theLastCallHolds() {
        Check.sentence("at most 512 calls after it has been made");
        KeyedCells x = wide();
        for (int call = 1; call < 512; call++) {
            due("rekey", x.rekey(), 0);
        }
        due("call 512", x.rekeys(), 511);
        KeyedCells y = new KeyedCells(SEED, 7, 64);
        for (int call = 1; call < 512; call++) {
            due("put", y.put(call, call), call <= 96 ? 0 : 2);
        }
        due("call 512", y.size(), 96);
        KeyedCells z = wide();
        z.put(0, 5);
        for (int call = 2; call < 512; call++) {
            due("rekey", z.rekey(), call == 2 ? 0 : 1);
        }
        due("call 512", z.get(0), 5);
    }

    public static void main(String[] args) {
        getOfNone();
        hasOfValueZero();
        asksChangeNothing();
        removeOfOneNotBound();
        removeOfAll();
        sizesAtTheirBounds();
        probeMaxOfNoPut();
        probeMaxAfterRemove();
        probeMaxOfTheRunRekeyedFor();
        probeMaxOfSteps();
        rekeyAnswers();
        migrateStepAnswers();
        hashesAreOfTheNewTable();
        keyWordsAtTheirBounds();
        keyWordsOutside();
        nthOutside();
        nthOfAFreeCell();
        nthOfTheFirstAndTheLastCell();
        nthOfKeyMinusOne();
        filledOutside();
        filledOfNoOldTable();
        filledOfEachKind();
        aboveNone();
        aboveIsStrictlyAbove();
        aboveInEitherTable();
        aboveOfGoneOnes();
        sumOfNone();
        sumOfOne();
        sumByTheNewKey();
        rekeysOfEachKind();
        theLastCallHolds();
        Check.end();
    }
}

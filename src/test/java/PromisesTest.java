import java.util.List;
import java.util.TreeSet;

/** For each promise of the document: ordinary inputs, the edges that it names, wrong inputs. */
public final class PromisesTest extends Fixture {
    private PromisesTest() {
    }

    // Promise 1

    private static void newObject() {
        KeyedCells x = new KeyedCells(SEED, 3, 4);
        due("new: size", x.size(), 0);
        due("new: probeMax", x.probeMax(), 0);
        due("new: rekeys", x.rekeys(), 0);
        due("new: sum", x.sum(), 0);
        due("new: above", x.above(LOW), LOW);
        due("new: nth", x.nth(0), -1);
        due("new: has(0)", x.has(0), false);
        due("new: migrateStep", x.migrateStep(), 0);
        dueCells("new", x, false, "00000000");
        dueCells("new", x, true, "00000000");
        due("new: keyWord(0)", x.keyWord(0), 1004282400);
        due("new: keyWord(1)", x.keyWord(1), -2094945809);
        due("new: keyWord(2)", x.keyWord(2), 1928073449);
        due("new: keyWord(3)", x.keyWord(3), 741806228);
    }

    private static void seeds() {
        for (int seed : new int[] {0, 1, -1, LOW, HIGH, 0x61C88647, -12}) {
            KeyedCells x = new KeyedCells(seed, 3, 4);
            Reference want = new Reference(seed, 3, 4);
            for (int key = 0; key < 3; key++) {
                for (int i = 0; i < 4; i++) {
                    due("seed " + seed + " word " + i, x.keyWord(i), want.keyWord(i));
                }
                x.rekey();
                want.rekey();
            }
        }
    }

    private static void bitsAreKeptIn() {
        int[] bits = {LOW, -1, 0, 2, 3, 4, 5, 6, 7, 8, 31, 32, 35, HIGH};
        int[] cells = {8, 8, 8, 8, 8, 16, 32, 64, 128, 128, 128, 128, 128, 128};
        for (int b = 0; b < bits.length; b++) {
            KeyedCells x = new KeyedCells(3, bits[b], 64);
            int most = cells[b] / 4 * 3;
            for (int key = 0; key < most; key++) {
                due("bits " + bits[b] + " put " + key, x.put(key, key), 0);
            }
            due("bits " + bits[b] + " put one more", x.put(most, 0), 2);
            int seen = 0;
            for (int i = -2; i < cells[b] + 2; i++) {
                seen += x.filled(false, i) + x.filled(true, i) == 1 ? 1 : 0;
            }
            due("bits " + bits[b] + " filled", seen, most);
        }
    }

    private static void limitIsKeptIn() {
        int[] limits = {LOW, -1, 0, 1, 2, 3, 4, 63, 64, 65, HIGH};
        int[] kept = {2, 2, 2, 2, 2, 3, 4, 63, 64, 64, 64};
        Homes homes = new Homes(5, 7);
        int[] keys = new int[65];
        for (int i = 0; i < keys.length; i++) {
            keys[i] = homes.key(100, i);
        }
        for (int n = 0; n < limits.length; n++) {
            KeyedCells x = new KeyedCells(5, 7, limits[n]);
            for (int i = 0; i < kept[n]; i++) {
                due("limit " + limits[n] + " put", x.put(keys[i], i), 0);
            }
            due("limit " + limits[n] + " probeMax at it", x.probeMax(), kept[n]);
            due("limit " + limits[n] + " rekeys at it", x.rekeys(), 0);
            due("limit " + limits[n] + " put over it", x.put(keys[kept[n]], 1), 0);
            due("limit " + limits[n] + " rekeys over it", x.rekeys(), 1);
            due("limit " + limits[n] + " size over it", x.size(), kept[n] + 1);
        }
    }

    // Promise 2

    private static void putAnswers() {
        KeyedCells x = wide();
        int[] keys = putByHomes(x, 0, 0, 2, 3, 4, 5);
        due("put bound", x.put(keys[1], -5), 1);
        due("put bound: value", x.get(keys[1]), -5);
        due("put bound: where it was", x.nth(1), keys[1]);
        due("put bound: size", x.size(), 6);
        due("put when full", x.put(1000, 1), 2);
        due("put when full: not bound", x.has(1000), false);
        due("put when full: size", x.size(), 6);
        due("put bound when full", x.put(keys[5], LOW), 1);
        due("put bound when full: value", x.get(keys[5]), LOW);
        due("remove", x.remove(keys[5]), true);
        due("put with room again", x.put(1000, 1), 0);
        due("put with room again: value", x.get(1000), 1);
    }

    private static void putOfEdges() {
        KeyedCells x = wide();
        int[] keys = {0, -1, HIGH, LOW};
        for (int key : keys) {
            due("put edge", x.put(key, key), 0);
        }
        for (int key : keys) {
            due("get edge", x.get(key), key);
            due("put edge again", x.put(key, ~key), 1);
            due("get edge again", x.get(key), ~key);
        }
    }

    private static void putMakesStep() {
        KeyedCells x = wide();
        int[] keys = putByHomes(x, 0, 1, 2, 3, 4, 5);
        x.rekey();
        due("put of one in the old table", x.put(keys[5], 77), 1);
        dueCells("put made a step", x, true, "22221100");
        due("value in the old table", x.get(keys[5]), 77);
        due("put of the other", x.put(keys[0], 78), 1);
        dueCells("put made the last step", x, true, "00000000");
        due("value moved over", x.get(keys[5]), 77);
        due("value in the new table", x.get(keys[0]), 78);
        x.rekey();
        due("put when full", x.put(1000, 1), 2);
        due("put when full made a step", x.migrateStep(), 0);
        due("size", x.size(), 6);
    }

    private static void putKeepsBoundAcrossTables() {
        KeyedCells x = wide();
        putByHomes(x, 0, 1, 2, 3, 4);
        x.rekey();
        due("put the sixth", x.put(2000, 1), 0);
        due("put the seventh", x.put(2001, 1), 2);
        due("size", x.size(), 6);
        due("rekeys", x.rekeys(), 1);
    }

    private static void putRekeys() {
        KeyedCells x = new KeyedCells(SEED, 3, 2);
        putByHomes(x, 6, 6);
        due("run 2: rekeys", x.rekeys(), 0);
        due("run 2: probeMax", x.probeMax(), 2);
        int third = OF8.key(6, 2);
        due("put with run 3", x.put(third, 9), 0);
        due("run 3: rekeys", x.rekeys(), 1);
        due("run 3: probeMax", x.probeMax(), 0);
        due("run 3: get", x.get(third), 9);
        dueCells("run 3: the old table has all", x, true, "10000011");
        dueCells("run 3: the new one none", x, false, "00000000");
        due("run 3: a new key", x.keyWord(0), -1865434569);
    }

    /** A rekey in a put that comes while entries move: what is left moves first. */
    private static void putRekeysWhileMoving() {
        KeyedCells x = new KeyedCells(SEED, 4, 2);
        int[][] homes = {{0, 5}, {1, 5}, {2, 10}, {3, 12}, {4, 0}, {6, 1}, {8, 2}, {10, 3}, {12, 4}};
        for (int[] pair : homes) {
            due("put", x.put(OF16.key(pair[0], pair[1], 0), pair[0]), 0);
        }
        due("rekey", x.rekey(), 0);
        int late = OF16.key(-1, 5, 9);
        due("put while moving", x.put(late, 50), 0);
        due("rekeys", x.rekeys(), 2);
        due("size", x.size(), 10);
        dueCells("all are in the old table", x, true, "1111111100101000");
        due("get late", x.get(late), 50);
        due("migrateStep", x.migrateStep(), 6);
    }

    // Promises 3 and 4

    private static void getAndHas() {
        KeyedCells x = wide();
        due("get of none", x.get(0), 0);
        int[] keys = putByHomes(x, 3, 3, 3, 4);
        x.put(keys[2], -1);
        due("get first", x.get(keys[0]), 10);
        due("get third", x.get(keys[2]), -1);
        due("get behind the run", x.get(keys[3]), 13);
        due("has", x.has(keys[3]), true);
        due("get of the same home", x.get(OF8.key(3, 3)), 0);
        due("has of the same home", x.has(OF8.key(3, 3)), false);
        x.put(keys[0], 0);
        due("get of value 0", x.get(keys[0]), 0);
        due("has of value 0", x.has(keys[0]), true);
        x.remove(keys[0]);
        due("has removed", x.has(keys[0]), false);
        due("get removed", x.get(keys[0]), 0);
    }

    private static void getAndHasInTheOldTable() {
        KeyedCells x = wide();
        int[] keys = putByHomes(x, 1, 1, 1, 1, 1, 1);
        x.rekey();
        for (int i = 0; i < 6; i++) {
            due("get in the old table", x.get(keys[i]), 10 + i);
        }
        due("migrateStep", x.migrateStep(), 2);
        due("get behind gone cells", x.get(keys[5]), 15);
        due("has behind gone cells", x.has(keys[4]), true);
        dueCells("get and has make no step", x, true, "02222110");
        due("remove one that moved", x.remove(keys[0]), true);
        due("has not in the gone cell", x.has(keys[0]), false);
        due("get not in the gone cell", x.get(keys[0]), 0);
    }

    private static void looksForNoneEnd() {
        KeyedCells x = wide();
        int[] keys = putByHomes(x, 0, 1, 2, 3, 4, 5);
        x.rekey();
        x.migrateStep();
        for (int n = 0; n < 40; n++) {
            due("has none", x.has(100_000 + n), false);
        }
        due("has", x.has(keys[5]), true);
    }

    // Promise 5

    private static void removeMovesUp() {
        KeyedCells x = wide();
        int[] keys = putByHomes(x, 0, 1, 0, 4, 4);
        due("remove", x.remove(keys[0]), true);
        due("what has its home behind the free cell stays", x.nth(1), keys[1]);
        due("what has not moves", x.nth(0), keys[2]);
        due("with its value", x.get(keys[2]), 12);
        dueCells("remove", x, false, "11001100");
        due("behind a free cell nothing moves", x.nth(5), keys[4]);
        due("remove again", x.remove(keys[0]), false);
        due("remove alone", x.remove(keys[4]), true);
        dueCells("remove alone", x, false, "11001000");
        due("size", x.size(), 3);
        due("probeMax stays", x.probeMax(), 3);
    }

    private static void removeMovesUpInTurn() {
        KeyedCells x = wide();
        int[] keys = putByHomes(x, 2, 2, 2, 3, 6);
        due("remove", x.remove(keys[0]), true);
        due("second", x.nth(2), keys[1]);
        due("third", x.nth(3), keys[2]);
        due("fourth", x.nth(4), keys[3]);
        dueCells("in turn", x, false, "00111010");
    }

    private static void removeGoesRound() {
        KeyedCells x = wide();
        int[] keys = putByHomes(x, 6, 7, 0, 6, 7);
        due("remove", x.remove(keys[0]), true);
        due("home 6 moves round", x.nth(6), keys[3]);
        due("home 7 stays", x.nth(7), keys[1]);
        due("home 0 stays", x.nth(0), keys[2]);
        due("home 7 moves up", x.nth(1), keys[4]);
        dueCells("round", x, false, "11000011");
        due("remove home 7", x.remove(keys[1]), true);
        due("home 7 moves round", x.nth(7), keys[4]);
        due("home 0 stays still", x.nth(0), keys[2]);
        dueCells("round again", x, false, "10000011");
        due("remove home 7 again", x.remove(keys[4]), true);
        dueCells("nothing moves", x, false, "10000010");
    }

    private static void removeInTheOldTable() {
        KeyedCells x = wide();
        int[] keys = putByHomes(x, 2, 2, 2, 5);
        x.rekey();
        due("remove", x.remove(keys[0]), true);
        dueCells("it is gone", x, true, "00211100");
        due("size", x.size(), 3);
        due("get behind it", x.get(keys[2]), 12);
        due("remove again", x.remove(keys[0]), false);
        due("remove", x.remove(keys[2]), true);
        due("remove", x.remove(keys[1]), true);
        dueCells("one is left", x, true, "00222100");
        due("remove the last", x.remove(keys[3]), true);
        dueCells("there is no old table", x, true, "00000000");
        due("size", x.size(), 0);
        due("rekey after that", x.rekey(), 0);
        due("put", x.put(keys[0], 3), 0);
        due("get", x.get(keys[0]), 3);
    }

    private static void removeOfNone() {
        KeyedCells x = wide();
        due("remove of none", x.remove(0), false);
        for (int key : new int[] {0, -1, LOW, HIGH}) {
            x.put(key, 1);
            due("remove edge", x.remove(key), true);
            due("remove edge again", x.remove(key), false);
        }
        due("size", x.size(), 0);
    }

    // Promise 6

    private static void size() {
        KeyedCells x = wide();
        int[] keys = putByHomes(x, 0, 1, 2, 3, 4, 5);
        due("size", x.size(), 6);
        x.rekey();
        due("size: all in the old table", x.size(), 6);
        x.migrateStep();
        due("size: in both", x.size(), 6);
        x.remove(keys[0]);
        due("size: one taken out of the new", x.size(), 5);
        x.remove(keys[5]);
        due("size: one taken out of the old", x.size(), 4);
        x.put(keys[1], 0);
        due("size: none put", x.size(), 4);
    }

    // Promise 7

    private static void probeMax() {
        KeyedCells x = wide();
        int[] keys = putByHomes(x, 0, 4);
        due("probeMax: runs of 1", x.probeMax(), 1);
        x.put(OF8.key(4, 1), 1);
        x.put(OF8.key(4, 2), 1);
        due("probeMax: a run of 3", x.probeMax(), 3);
        x.put(OF8.key(1, 0), 1);
        due("probeMax: the longest", x.probeMax(), 3);
        x.put(keys[0], 5);
        x.remove(OF8.key(4, 2));
        due("probeMax: after a remove", x.probeMax(), 3);
        x.rekey();
        due("probeMax: rekeyed", x.probeMax(), 0);
    }

    private static void probeMaxAndSteps() {
        KeyedCells x = wide();
        for (int i = 0; i < 4; i++) {
            x.put(OF8.key(2 * i, 3, 0), i);
        }
        x.rekey();
        due("migrateStep", x.migrateStep(), 0);
        dueCells("a run of 4 in a step", x, false, "00011110");
        due("probeMax: steps do not count", x.probeMax(), 0);
        x.put(OF8.key(0, 3, 0), 9);
        due("probeMax: a bound one does not count", x.probeMax(), 0);
        x.put(OF8.key(-1, 5, 7), 9);
        due("probeMax: counts again", x.probeMax(), 3);
        x.put(OF8.key(-1, 0, 7), 9);
        due("put when full", x.put(OF8.key(-1, 3, 7), 9), 2);
        due("probeMax: one that did not come in does not count", x.probeMax(), 3);
    }

    // Promise 8

    private static void rekey() {
        KeyedCells x = wide();
        due("rekey of none", x.rekey(), 0);
        due("a key is drawn", x.keyWord(0), -1865434569);
        dueCells("no old table", x, true, "00000000");
        for (int key = 0; key < 6; key++) {
            due("put", x.put(key, key), 0);
        }
        due("rekey without an old table", x.rekey(), 0);
        due("rekey with one of six", x.rekey(), 6);
        due("migrateStep", x.migrateStep(), 2);
        due("rekey with two left", x.rekey(), 2);
        due("remove one", x.remove(3), true);
        due("rekey with five", x.rekey(), 5);
        due("size", x.size(), 5);
        for (int key = 0; key < 6; key++) {
            due("get", x.get(key), key == 3 ? 0 : key);
        }
    }

    private static void rekeyLeavesNoMarks() {
        KeyedCells x = wide();
        int[] keys = putByHomes(x, 0, 1, 2, 3, 4, 5);
        x.rekey();
        x.migrateStep();
        due("rekey", x.rekey(), 2);
        dueCells("the new table is free", x, false, "00000000");
        int all = 0;
        for (int i = 0; i < 8; i++) {
            all += x.filled(true, i);
        }
        due("the old table has all, none gone", all, 6);
        for (int key : keys) {
            due("remove", x.remove(key), true);
        }
        due("rekey of none", x.rekey(), 0);
        dueCells("no old table", x, true, "00000000");
        dueCells("no new entry", x, false, "00000000");
    }

    private static void rekeyOfMany() {
        KeyedCells x = new KeyedCells(1, 7, 64);
        for (int key = 0; key < 96; key++) {
            x.put(key, key);
        }
        due("put", x.put(96, 0), 2);
        due("rekey", x.rekey(), 0);
        due("rekey", x.rekey(), 96);
        due("migrateStep", x.migrateStep(), 92);
        due("rekey", x.rekey(), 92);
        due("size", x.size(), 96);
    }

    // Promise 9

    private static void migrateStep() {
        KeyedCells x = wide();
        due("without an old table", x.migrateStep(), 0);
        int[] firstHomes = {7, 5, 4, 2, 1, 0};
        int[] secondHomes = {6, 6, 7, 7, 0, 7};
        int[] keys = new int[6];
        for (int i = 0; i < 6; i++) {
            keys[i] = OF8.key(firstHomes[i], secondHomes[i], 0);
            x.put(keys[i], 20 + i);
        }
        x.rekey();
        due("step", x.migrateStep(), 2);
        dueCells("the first four by cells", x, true, "22202101");
        due("cell 0 came first", x.nth(7), keys[5]);
        due("then cell 1", x.nth(0), keys[4]);
        due("then cell 2, round", x.nth(1), keys[3]);
        due("then cell 4", x.nth(2), keys[2]);
        due("step", x.migrateStep(), 0);
        due("then cell 5", x.nth(6), keys[1]);
        due("then cell 7", x.nth(3), keys[0]);
        dueCells("none left", x, true, "00000000");
        due("step", x.migrateStep(), 0);
        for (int i = 0; i < 6; i++) {
            due("value", x.get(keys[i]), 20 + i);
        }
    }

    private static void migrateStepOfFew() {
        for (int count = 1; count <= 6; count++) {
            KeyedCells x = wide();
            for (int key = 0; key < count; key++) {
                x.put(key, 1);
            }
            x.rekey();
            due("step of " + count, x.migrateStep(), Math.max(0, count - 4));
            int left = 0;
            for (int i = 0; i < 8; i++) {
                left += x.filled(true, i) == 0 ? 0 : 1;
            }
            due("cells in use after a step of " + count, left, count > 4 ? count : 0);
        }
    }

    private static void migrateStepPassesGoneCells() {
        KeyedCells x = wide();
        int[] keys = putByHomes(x, 0, 1, 2, 3, 4, 5);
        x.rekey();
        x.remove(keys[0]);
        due("step", x.migrateStep(), 1);
        dueCells("four moved", x, true, "22222100");
        due("size", x.size(), 5);
        due("the removed is not moved", x.has(keys[0]), false);
    }

    // Promises 10, 11 and 12

    private static void hashes() {
        KeyedCells x = wide();
        due("hashLo(0)", x.hashLo(0), -44023154);
        due("hashHi(0)", x.hashHi(0), 1370281787);
        due("hashLo(-1)", x.hashLo(-1), 1873038353);
        due("hashHi(12345)", x.hashHi(12345), 502651721);
        int[] keys = {0, 1, -1, 12345, LOW, HIGH, 0x04000000};
        for (int time = 0; time < 3; time++) {
            int[] words = Homes.wordsOf(x);
            for (int key : keys) {
                long want = Reference.hash(words, key);
                due("hashLo(" + key + ")", x.hashLo(key), (int) want);
                due("hashHi(" + key + ")", x.hashHi(key), (int) (want >>> 32));
            }
            x.put(time, time);
            x.rekey();
        }
    }

    private static void keyWords() {
        KeyedCells x = wide();
        for (int i : new int[] {-1, 4, 5, LOW, HIGH}) {
            due("keyWord(" + i + ")", x.keyWord(i), 0);
        }
        Reference want = new Reference(SEED, 3, 64);
        x.put(1, 1);
        for (int time = 0; time < 5; time++) {
            for (int i = 0; i < 4; i++) {
                due("keyWord(" + i + ")", x.keyWord(i), want.keyWord(i));
            }
            x.rekey();
            want.rekey();
        }
    }

    // Promises 13 and 14

    private static void nth() {
        KeyedCells x = wide();
        int[] keys = putByHomes(x, 0, 7);
        due("nth(0)", x.nth(0), keys[0]);
        due("nth(7)", x.nth(7), keys[1]);
        for (int i : new int[] {-1, 1, 6, 8, 9, LOW, HIGH}) {
            due("nth(" + i + ")", x.nth(i), -1);
        }
        x.put(-1, 5);
        int home = x.hashLo(-1) & 7;
        due("nth of key -1", x.nth(home), -1);
        due("filled of key -1", x.filled(false, home), 1);
        x.remove(keys[0]);
        due("nth of one taken out", x.nth(0), -1);
        x.rekey();
        due("nth does not tell of the old table", x.nth(7), -1);
    }

    private static void filled() {
        KeyedCells x = wide();
        int[] keys = putByHomes(x, 0, 3, 4, 5, 7);
        dueCells("new", x, false, "10011101");
        dueCells("no old one", x, true, "00000000");
        due("remove", x.remove(keys[1]), true);
        dueCells("a cell of the new table is never gone", x, false, "10001101");
        x.rekey();
        dueCells("old", x, true, "10001101");
        dueCells("new is free", x, false, "00000000");
        due("remove", x.remove(keys[3]), true);
        dueCells("gone", x, true, "10001201");
        for (int i : new int[] {-1, 8, 9, LOW, HIGH}) {
            due("filled(false, " + i + ")", x.filled(false, i), 0);
            due("filled(true, " + i + ")", x.filled(true, i), 0);
        }
        due("put", x.put(keys[1], 1), 0);
        dueCells("no old one again", x, true, "00000000");
    }

    // Promise 15

    private static void above() {
        KeyedCells x = wide();
        for (int key : new int[] {LOW, -7, 0, 9, HIGH}) {
            x.put(key, 1);
        }
        for (int moving = 0; moving < 3; moving++) {
            due("above(LOW)", x.above(LOW), -7);
            due("above(LOW + 1)", x.above(LOW + 1), -7);
            due("above(-7)", x.above(-7), 0);
            due("above(-1)", x.above(-1), 0);
            due("above(0)", x.above(0), 9);
            due("above(8)", x.above(8), 9);
            due("above(9)", x.above(9), HIGH);
            due("above(HIGH - 1)", x.above(HIGH - 1), HIGH);
            due("above(HIGH)", x.above(HIGH), HIGH);
            if (moving == 0) {
                x.rekey();
            } else {
                x.migrateStep();
            }
        }
        x.remove(HIGH);
        due("above the greatest", x.above(9), 9);
        due("above none", x.above(100), 100);
        x.remove(0);
        due("above one taken out", x.above(-7), 9);
    }

    private static void aboveInBothTables() {
        for (int late = 0; late < 12; late += 2) {
            KeyedCells x = wide();
            TreeSet<Integer> bound = new TreeSet<>(List.of(1, 3, 5, 7, 9));
            for (int key : bound) {
                x.put(key, 1);
            }
            x.rekey();
            x.put(late, 1);
            bound.add(late);
            for (int key = -1; key < 12; key++) {
                Integer next = bound.higher(key);
                due("above(" + key + ") with " + late, x.above(key), next == null ? key : next);
            }
        }
    }

    // Promise 16

    private static void sum() {
        KeyedCells x = wide();
        due("sum of none", x.sum(), 0);
        int[] keys = {0, -1, LOW, HIGH, 5, 6};
        int[] values = {HIGH, LOW, -1, 0, 1 << 30, 7};
        for (int i = 0; i < keys.length; i++) {
            x.put(keys[i], values[i]);
        }
        for (int time = 0; time < 4; time++) {
            int[] words = Homes.wordsOf(x);
            long want = 0;
            for (int i = 0; i < keys.length; i++) {
                want += Reference.hash(words, keys[i]) * (2L * values[i] + 1L);
            }
            due("sum, time " + time, x.sum(), want);
            if (time == 0) {
                x.rekey();
            } else {
                x.migrateStep();
            }
        }
        for (int key : keys) {
            x.remove(key);
        }
        due("sum of none again", x.sum(), 0);
    }

    private static void sumAfterRemove() {
        KeyedCells x = wide();
        int[] keys = putByHomes(x, 0, 1, 2, 3, 4, 5);
        x.rekey();
        x.migrateStep();
        x.remove(keys[0]);
        x.remove(keys[5]);
        long want = 0;
        for (int i = 1; i < 5; i++) {
            want += Reference.hash(Homes.wordsOf(x), keys[i]) * (2L * (10 + i) + 1L);
        }
        due("sum without the removed", x.sum(), want);
    }

    // Promise 17

    private static void rekeys() {
        KeyedCells x = new KeyedCells(SEED, 3, 2);
        x.rekey();
        x.rekey();
        due("rekeys: of none too", x.rekeys(), 2);
        KeyedCells y = new KeyedCells(SEED, 3, 2);
        putByHomes(y, 4, 4, 4);
        due("rekeys: in a put", y.rekeys(), 1);
        y.rekey();
        due("rekeys: both", y.rekeys(), 2);
        y.migrateStep();
        y.get(1);
        due("rekeys: steps do not count", y.rekeys(), 2);
    }

    /** No object shares anything with another. */
    private static void twoObjects() {
        KeyedCells x = wide();
        KeyedCells y = wide();
        x.put(1, 2);
        x.rekey();
        due("other: size", y.size(), 0);
        due("other: rekeys", y.rekeys(), 0);
        due("other: keyWord", y.keyWord(0), 1004282400);
    }

    public static void main(String[] args) {
        newObject();
        seeds();
        bitsAreKeptIn();
        limitIsKeptIn();
        putAnswers();
        putOfEdges();
        putMakesStep();
        putKeepsBoundAcrossTables();
        putRekeys();
        putRekeysWhileMoving();
        getAndHas();
        getAndHasInTheOldTable();
        looksForNoneEnd();
        removeMovesUp();
        removeMovesUpInTurn();
        removeGoesRound();
        removeInTheOldTable();
        removeOfNone();
        size();
        probeMax();
        probeMaxAndSteps();
        rekey();
        rekeyLeavesNoMarks();
        rekeyOfMany();
        migrateStep();
        migrateStepOfFew();
        migrateStepPassesGoneCells();
        hashes();
        keyWords();
        nth();
        filled();
        above();
        aboveInBothTables();
        sum();
        sumAfterRemove();
        rekeys();
        twoObjects();
        Check.end();
    }
}

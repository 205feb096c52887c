/** What the tests share: small objects, and ints that are chosen by their homes. */
class Fixture {
    static final int LOW = Integer.MIN_VALUE;
    static final int HIGH = Integer.MAX_VALUE;
    static final int SEED = 7;
    /** Homes in objects with SEED and 8 cells. */
    static final Homes OF8 = new Homes(SEED, 3);
    static final Homes OF16 = new Homes(SEED, 4);

    Fixture() {
    }

    static void due(String call, long got, long want) {
        Check.due(call, got, want);
    }

    static void due(String call, boolean got, boolean want) {
        Check.due(call, got, want);
    }

    /** One character a cell: what filled() answers. */
    static String cellsOf(KeyedCells x, boolean old, int cells) {
        StringBuilder text = new StringBuilder();
        for (int i = 0; i < cells; i++) {
            text.append(x.filled(old, i));
        }
        return text.toString();
    }

    static void dueCells(String when, KeyedCells x, boolean old, String want) {
        String got = cellsOf(x, old, want.length());
        due(when + ": cells " + got + " for " + want, got.equals(want), true);
    }

    /** Puts ints with these homes into an object with SEED and 8 cells; values are 10, 11 .. */
    static int[] putByHomes(KeyedCells x, int... homes) {
        int[] keys = new int[homes.length];
        int[] used = new int[8];
        for (int i = 0; i < homes.length; i++) {
            keys[i] = OF8.key(homes[i], used[homes[i]]++);
            due("put by home " + homes[i], x.put(keys[i], 10 + i), 0);
        }
        return keys;
    }

    /** Puts ints with these pairs of homes (in the first and the second table); values as above. */
    static int[] putByPairs(KeyedCells x, int[][] pairs) {
        int[] keys = new int[pairs.length];
        for (int i = 0; i < pairs.length; i++) {
            int rank = 0;
            for (int j = 0; j < i; j++) {
                rank += pairs[j][0] == pairs[i][0] && pairs[j][1] == pairs[i][1] ? 1 : 0;
            }
            keys[i] = OF8.key(pairs[i][0], pairs[i][1], rank);
            due("put by homes " + pairs[i][0] + " and " + pairs[i][1], x.put(keys[i], 10 + i), 0);
        }
        return keys;
    }

    /** For an object that was not rekeyed: so many ints move over to its second table. */
    static void rekeyAndMoveAll(KeyedCells x, int count) {
        due("rekey", x.rekey(), 0);
        for (int left = count - 4; left > -4; left -= 4) {
            due("migrateStep", x.migrateStep(), Math.max(0, left));
        }
        due("rekeys", x.rekeys(), 1);
    }

    /** Eight cells, and a limit that no run can reach. */
    static KeyedCells wide() {
        return new KeyedCells(SEED, 3, 64);
    }
}

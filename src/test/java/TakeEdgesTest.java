/** The boundary cases of taking an int out of a table, each by a test of its own. */
public final class TakeEdgesTest extends Fixture {
    private TakeEdgesTest() {
    }

    /** Puts by these homes, takes out the int of rank out, and tells which rank each cell has. */
    private static void dueRanks(String what, int[] homes, int out, String want) {
        KeyedCells x = wide();
        int[] keys = putByHomes(x, homes);
        due(what + ": remove", x.remove(keys[out]), true);
        StringBuilder got = new StringBuilder();
        for (int cell = 0; cell < 8; cell++) {
            char rank = x.filled(false, cell) == 0 ? '.' : '?';
            for (int i = 0; i < keys.length; i++) {
                if (rank == '?' && x.nth(cell) == keys[i]) {
                    rank = (char) ('0' + i);
                }
            }
            got.append(rank);
        }
        due(what + ": cells " + got + " for " + want, got.toString().equals(want), true);
        for (int i = 0; i < keys.length; i++) {
            due(what + ": get", x.get(keys[i]), i == out ? 0 : 10 + i);
        }
        due(what + ": size", x.size(), keys.length - 1);
    }

    private static int[] homes(int... homes) {
        return homes;
    }

    private static void theCellIsFree() {
        Check.sentence("its cell is free");
        dueRanks("alone", homes(3), 0, "........");
        dueRanks("alone in cell 0", homes(0), 0, "........");
        dueRanks("alone in the last cell", homes(7), 0, "........");
        dueRanks("the last of a run", homes(3, 3, 3), 2, "...01...");
    }

    private static void endsAtAFreeCell() {
        Check.sentence("for each cell behind it in turn, until one is free");
        dueRanks("a free cell right behind it", homes(2, 4, 4), 0, "....12..");
        dueRanks("a free cell behind one that moves", homes(2, 2, 5, 5), 0, "..1..23.");
        dueRanks("the cells before it", homes(2, 2, 2), 1, "..02....");
    }

    private static void homeIsTheFreeCell() {
        Check.sentence("the home does not lie behind the cell that is free now: it is that cell");
        dueRanks("right behind it", homes(3, 3), 0, "...1....");
    }

    private static void homeIsBeforeTheFreeCell() {
        Check.sentence("the home does not lie behind the cell that is free now: it is before it");
        dueRanks("one before", homes(3, 4, 3), 1, "...02...");
        dueRanks("three before", homes(2, 2, 2, 2, 2), 3, "..0124..");
    }

    private static void homeIsRightBehindTheFreeCell() {
        Check.sentence("the home lies behind the cell that is free now: right behind it");
        dueRanks("its own cell", homes(3, 4), 0, "....1...");
        dueRanks("not its own cell", homes(3, 4, 4), 0, "....12..");
    }

    private static void homeIsItsOwnCell() {
        Check.sentence("up to its own");
        dueRanks("two cells behind it", homes(3, 4, 5), 0, "....12..");
        dueRanks("the last of them", homes(3, 3, 5), 1, "...0.2..");
    }

    private static void goesOnBehindOneThatStays() {
        Check.sentence("for each cell behind it in turn");
        dueRanks("one stays, one moves", homes(3, 4, 3), 0, "...21...");
        dueRanks("two stay, one moves", homes(3, 4, 5, 3), 0, "...312..");
        dueRanks("one moves, one stays, one moves", homes(2, 2, 4, 3), 0, "..132...");
    }

    private static void theFreeCellIsTheLastOneLeft() {
        Check.sentence("it moves to the cell that is free, and its own is free now");
        dueRanks("two move", homes(3, 3, 3), 0, "...12...");
        dueRanks("a home behind the first, not the second", homes(3, 3, 4, 4), 0, "...123..");
        dueRanks("all of the most", homes(0, 0, 0, 0, 0, 0), 0, "12345...");
    }

    private static void goingRound() {
        Check.sentence("(going round)");
        dueRanks("cell 0 to the last", homes(7, 7), 0, ".......1");
        dueRanks("cell 0 stays", homes(7, 0), 0, "1.......");
        dueRanks("cell 1 to 0, home before the last", homes(6, 7, 0, 6), 2, "3.....01");
        dueRanks("cell 1 to 0, home is the last", homes(7, 0, 7), 1, "2......0");
        dueRanks("cell 1 to 0, home 0", homes(7, 7, 0), 1, "2......0");
        dueRanks("cell 1 stays, home 1", homes(7, 0, 1), 1, ".2.....0");
        dueRanks("cell 0 stays, home is the last", homes(6, 7, 7), 0, "2......1");
        dueRanks("cell 1 stays, home 0", homes(6, 7, 0, 0), 0, "23.....1");
        dueRanks("cell 1 to 6", homes(6, 7, 7, 6), 0, "2.....31");
        dueRanks("all of the most", homes(5, 5, 5, 5, 5, 5), 0, "45...123");
        dueRanks("all of the most, from the last", homes(7, 7, 7, 7, 7, 7), 0, "2345...1");
    }

    private static void goingRoundInEverySize() {
        Check.sentence("(going round), every C");
        for (int bits = 3; bits <= 7; bits++) {
            Homes homes = new Homes(SEED, bits);
            int last = (1 << bits) - 1;
            KeyedCells x = new KeyedCells(SEED, bits, 64);
            for (int i = 0; i < 4; i++) {
                x.put(homes.key(i < 3 ? last : 0, i % 3), i);
            }
            due("bits " + bits + ", remove", x.remove(homes.key(last, 0)), true);
            due("bits " + bits + ", the last cell", x.nth(last), homes.key(last, 1));
            due("bits " + bits + ", cell 0", x.nth(0), homes.key(last, 2));
            due("bits " + bits + ", cell 1", x.nth(1), homes.key(0, 0));
            due("bits " + bits + ", cell 2", x.filled(false, 2), 0);
        }
    }

    /** All that may be bound stand in one run: each of them moves up by one cell. */
    private static void longestRunInEverySize() {
        Check.sentence("for each cell behind it in turn, until one is free (every C)");
        for (int bits = 3; bits <= 7; bits++) {
            Homes homes = new Homes(SEED, bits);
            int cells = 1 << bits;
            int most = cells / 4 * 3;
            KeyedCells x = new KeyedCells(SEED, bits, 64);
            for (int i = 0; i < most; i++) {
                x.put(homes.key(-1, cells - 2, i), i);
            }
            rekeyAndMoveAll(x, most);
            int[] keys = new int[most];
            for (int i = 0; i < most; i++) {
                keys[i] = x.nth((cells - 2 + i) % cells);
            }
            due("bits " + bits + ", remove", x.remove(keys[0]), true);
            for (int i = 1; i < most; i++) {
                due("bits " + bits + ", rank " + i, x.nth((cells - 3 + i) % cells), keys[i]);
            }
            due("bits " + bits + ", the last cell", x.filled(false, most - 3), 0);
        }
    }

    private static void outOfTheOldTable() {
        Check.sentence("Out of the old one: its cell is gone");
        KeyedCells x = wide();
        int[] keys = putByHomes(x, 7, 7, 7, 2);
        x.rekey();
        due("remove", x.remove(keys[0]), true);
        dueCells("the last cell, and nothing moves", x, true, "11100002");
        due("get behind it", x.get(keys[2]), 12);
        due("remove", x.remove(keys[1]), true);
        dueCells("cell 0, and nothing moves", x, true, "21100002");
        due("get behind both", x.get(keys[2]), 12);
        dueCells("the new table is as it was", x, false, "00000000");
        due("size", x.size(), 2);
    }

    private static void outOfTheNewTableWhileEntriesMove() {
        Check.sentence("TO TAKE an int out of the new table (there is an old one)");
        KeyedCells x = wide();
        int[] keys = putByPairs(x, new int[][] {{0, 6}, {1, 6}, {2, 6}, {3, 6}, {4, 6}, {5, 6}});
        x.rekey();
        x.migrateStep();
        due("remove", x.remove(keys[0]), true);
        dueCells("new", x, false, "10000011");
        due("the second moves up", x.nth(6), keys[1]);
        due("the fourth goes round", x.nth(0), keys[3]);
        dueCells("the old table is as it was", x, true, "22221100");
    }

    public static void main(String[] args) {
        theCellIsFree();
        endsAtAFreeCell();
        homeIsTheFreeCell();
        homeIsBeforeTheFreeCell();
        homeIsRightBehindTheFreeCell();
        homeIsItsOwnCell();
        goesOnBehindOneThatStays();
        theFreeCellIsTheLastOneLeft();
        goingRound();
        goingRoundInEverySize();
        longestRunInEverySize();
        outOfTheOldTable();
        outOfTheNewTableWhileEntriesMove();
        Check.end();
    }
}

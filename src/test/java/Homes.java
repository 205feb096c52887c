/** Finds ints by the homes that they have in the first two tables of an object. */
final class Homes {
    private final int[] first;
    private final int[] second;
    private final int cells;

    /** The words are read from a twin, so that the calls of the object under test stay few. */
    Homes(int seed, int bits) {
        KeyedCells twin = new KeyedCells(seed, bits, 64);
        first = wordsOf(twin);
        twin.rekey();
        second = wordsOf(twin);
        cells = 1 << bits;
    }

    static int[] wordsOf(KeyedCells x) {
        return new int[] {x.keyWord(0), x.keyWord(1), x.keyWord(2), x.keyWord(3)};
    }

    private boolean hasHome(int[] words, int key, int home) {
        return home < 0 || Math.floorMod(Reference.hash(words, key), (long) cells) == home;
    }

    /** The int of rank n (from 0 on) with these homes; a home of -1 may be any. */
    int key(int firstHome, int secondHome, int n) {
        int left = n;
        for (int key = 1; key < 1_000_000; key++) {
            if (hasHome(first, key, firstHome) && hasHome(second, key, secondHome)) {
                if (left == 0) {
                    return key;
                }
                left--;
            }
        }
        throw new IllegalStateException("no such int");
    }

    int key(int firstHome, int n) {
        return key(firstHome, -1, n);
    }
}

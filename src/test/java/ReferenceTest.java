import java.util.Random;

/** Long mixed runs of calls, each answer compared with the one of Reference. */
public final class ReferenceTest {
    private static final int CALLS = 512;
    private static final int[] EDGES = {0, -1, 1, Integer.MAX_VALUE, Integer.MIN_VALUE};

    private final Random random;
    private final KeyedCells x;
    private final Reference due;
    private final int cells;
    private final int spread;
    private final int putShare;
    private final String run;

    private ReferenceTest(int number) {
        random = new Random(number);
        int seed = random.nextInt(4) == 0 ? EDGES[random.nextInt(EDGES.length)] : random.nextInt();
        int bits = 1 + random.nextInt(8);
        int limit = random.nextInt(3) == 0 ? random.nextInt(70) - 2 : 2 + random.nextInt(6);
        x = new KeyedCells(seed, bits, limit);
        due = new Reference(seed, bits, limit);
        cells = 1 << Math.max(3, Math.min(7, bits));
        spread = 1 + cells * (1 + random.nextInt(3)) / 2;
        putShare = 25 + random.nextInt(50);
        run = "new(" + seed + ", " + bits + ", " + limit + ")";
    }

    private int anyKey() {
        int kind = random.nextInt(20);
        return kind == 0 ? EDGES[random.nextInt(EDGES.length)] : random.nextInt(spread) - spread / 4;
    }

    private int anyCell() {
        return random.nextInt(cells + 2) - 1;
    }

    private void change(int call) {
        String at = run + " call " + call + " ";
        int key = anyKey();
        int kind = random.nextInt(100);
        if (kind < putShare) {
            int value = random.nextInt();
            Check.due(at + "put(" + key + ", " + value + ")", x.put(key, value), due.put(key, value));
        } else if (kind < 94) {
            Check.due(at + "remove(" + key + ")", x.remove(key), due.remove(key));
        } else if (kind < 97) {
            Check.due(at + "migrateStep()", x.migrateStep(), due.migrateStep());
        } else {
            Check.due(at + "rekey()", x.rekey(), due.rekey());
        }
    }

    private void ask(int call) {
        String at = run + " call " + call + " ";
        int key = anyKey();
        int cell = anyCell();
        int word = random.nextInt(6) - 1;
        switch (random.nextInt(13)) {
            case 0 -> Check.due(at + "get(" + key + ")", x.get(key), due.get(key));
            case 1 -> Check.due(at + "has(" + key + ")", x.has(key), due.has(key));
            case 2 -> Check.due(at + "size()", x.size(), due.size());
            case 3 -> Check.due(at + "probeMax()", x.probeMax(), due.probeMax());
            case 4 -> Check.due(at + "hashLo(" + key + ")", x.hashLo(key), due.hashLo(key));
            case 5 -> Check.due(at + "hashHi(" + key + ")", x.hashHi(key), due.hashHi(key));
            case 6 -> Check.due(at + "keyWord(" + word + ")", x.keyWord(word), due.keyWord(word));
            case 7 -> Check.due(at + "nth(" + cell + ")", x.nth(cell), due.nth(cell));
            case 8 -> Check.due(at + "filled(false, " + cell + ")", x.filled(false, cell), due.filled(false, cell));
            case 9 -> Check.due(at + "filled(true, " + cell + ")", x.filled(true, cell), due.filled(true, cell));
            case 10 -> Check.due(at + "above(" + key + ")", x.above(key), due.above(key));
            case 11 -> Check.due(at + "sum()", x.sum(), due.sum());
            default -> Check.due(at + "rekeys()", x.rekeys(), due.rekeys());
        }
    }

    private void play() {
        for (int call = 1; call <= CALLS; call++) {
            if (random.nextInt(3) > 0) {
                change(call);
            } else {
                ask(call);
            }
        }
    }

    public static void main(String[] args) {
        for (int number = 1; number <= 600; number++) {
            new ReferenceTest(number).play();
        }
        Check.end();
    }
}

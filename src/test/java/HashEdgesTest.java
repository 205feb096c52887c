/**
 * The boundary cases of the generator, the key, the hash and the home, a sentence of the document
 * each. The numbers were computed by a program in another language.
 */
public final class HashEdgesTest extends Fixture {
    private HashEdgesTest() {
    }

    /** The words of the first two keys. */
    private static void dueWords(int seed, int... want) {
        KeyedCells x = new KeyedCells(seed, 3, 4);
        for (int n = 0; n < want.length; n++) {
            if (n == 4) {
                x.rekey();
            }
            due("seed " + seed + ", word " + n, x.keyWord(n % 4), want[n]);
        }
    }

    private static void dueHash(int seed, int n, int low, int high) {
        KeyedCells x = new KeyedCells(seed, 3, 4);
        due("seed " + seed + ", hashLo(" + n + ")", x.hashLo(n), low);
        due("seed " + seed + ", hashHi(" + n + ")", x.hashHi(n), high);
    }

    private static void leastAndGreatestSeeds() {
        Check.sentence("z is the seed at first; z becomes z + 0x9E3779B9 .. all wrapping");
        dueWords(0, -485958568, 1133695204, 53579671, -1403438493,
            139681546, -2091700961, 104831812, 1587294886);
        dueWords(-1, 835879718, 1921286648, -1938762287, 1885780724,
            980451116, 1053911718, -617574559, -1830605398);
        dueWords(LOW, -517726699, 340332888, 1644009166, 126705310,
            -1719499053, 1130795940, -1854148541, -388577193);
        dueWords(HIGH, -21554272, 512412270, -1569932202, -971370538,
            -249899286, 1250192254, -1142737244, 756013726);
    }

    /** The mixing is one to one, so no seed makes more than one of the four 0: these are nearest. */
    private static void oneOfTheFourIsZero() {
        Check.sentence("if all four are 0, a is 1");
        dueWords(0x61C88647, -987578658, -2012987829, 160985494, 1863470943,
            -1056892278, -743532335, -165335289, -828328976);
        dueWords(0xC3910C8E, 0, 1485662963, 1161876330, 1855474831,
            2051063826, -2050254485, 851355111, 1197337488);
        dueWords(0x255992D5, -687771320, 613478156, 876348405, -1877712469,
            -835633161, 1697286946, 1250239471, -122374238);
        dueWords(0x8722191C, 73361142, -537578338, 161837741, -601573415,
            486987126, -520127411, 1487844477, 644580196);
    }

    private static void wordsWithTheirHighestBit() {
        Check.sentence("k is w0 with w1 as its high half, l is w2 with w3 as its high half");
        dueHash(54, 0, 1358977728, -215266365);
        dueHash(20, 0, -620101434, 2092667836);
        dueHash(26, 0, -492808032, -609614708);
        dueHash(4, 0, 1530002752, -1487504651);
        dueHash(7, 0, -44023154, 1370281787);
        dueHash(11, 0, -583036140, -1979377053);
        dueHash(9, 0, 1793095307, -955235504);
        dueHash(2, 0, -1603156871, -1958145612);
        dueHash(6, 0, -1026087495, 1443581492);
        dueHash(0, 0, -2087904202, 1867549886);
        dueHash(13, 0, 429117491, 696702679);
        dueHash(38, 0, 814093398, -1685500986);
        dueHash(16, 0, 317839822, -1790024767);
        dueHash(3, 0, -874336237, -1915351443);
        dueHash(1, 0, 2065177980, -712118634);
        dueHash(25, 0, -1997766808, -1666322921);
    }

    private static void intsWithTheirHighestBit() {
        Check.sentence("m, the long with n as its low half and 0x04000000 as its high half");
        dueHash(7, -1, 1873038353, 1477430029);
        dueHash(7, LOW, -431358867, -744525300);
        dueHash(7, HIGH, 792856214, -2120545093);
        dueHash(25, -1, 840939765, -2034530130);
        dueHash(25, LOW, -1013375454, -2079168635);
        dueHash(25, HIGH, 209854009, 917164387);
    }

    /** Of the ints put here, one has a hash below 0, and another one a low half below 0. */
    private static void homesOfHashesBelowZero() {
        Check.sentence("its hash by that table's key modulo C (its lowest bits)");
        int[] keys = {0, LOW, -1};
        int[][] homes = {{6, 5, 1}, {14, 13, 1}, {14, 13, 17}, {14, 45, 17}, {14, 109, 17}};
        for (int bits = 3; bits <= 7; bits++) {
            KeyedCells x = new KeyedCells(SEED, bits, 64);
            for (int i = 0; i < keys.length; i++) {
                int home = homes[bits - 3][i];
                due("put(" + keys[i] + ")", x.put(keys[i], 5), 0);
                due("bits " + bits + ", home of " + keys[i], x.nth(home), keys[i]);
                due("bits " + bits + ", filled(" + home + ")", x.filled(false, home), 1);
                due("bits " + bits + ", get(" + keys[i] + ")", x.get(keys[i]), 5);
            }
        }
    }

    private static void firstAndLastHome() {
        Check.sentence("cells, numbered from 0, C being a power of 2");
        for (int bits = 3; bits <= 7; bits++) {
            Homes homes = new Homes(SEED, bits);
            int last = (1 << bits) - 1;
            KeyedCells x = new KeyedCells(SEED, bits, 64);
            x.put(homes.key(0, 0), 1);
            x.put(homes.key(last, 0), 2);
            due("bits " + bits + ", cell 0", x.nth(0), homes.key(0, 0));
            due("bits " + bits + ", cell " + last, x.nth(last), homes.key(last, 0));
            due("bits " + bits + ", filled behind the last", x.filled(false, last + 1), 0);
            due("bits " + bits + ", probeMax", x.probeMax(), 1);
        }
    }

    public static void main(String[] args) {
        leastAndGreatestSeeds();
        oneOfTheFourIsZero();
        wordsWithTheirHighestBit();
        intsWithTheirHighestBit();
        homesOfHashesBelowZero();
        firstAndLastHome();
        Check.end();
    }
}

/** Counts and prints the answers that are not as due. */
final class Check {
    private static final int MOST_PRINTED = 10;
    private static String told = "";
    private static int made = 0;
    private static int wrong = 0;
    private static int printed = 0;

    private Check() {
    }

    /** What follows tests this sentence of the document; it is printed with the first wrong answers. */
    static void sentence(String words) {
        told = "\"" + words + "\": ";
        printed = 0;
    }

    static void due(String call, long got, long want) {
        made++;
        if (got != want) {
            wrong++;
            if (printed < MOST_PRINTED) {
                printed++;
                System.out.println(told + call + " answered " + got + ", due is " + want);
            }
        }
    }

    static void due(String call, boolean got, boolean want) {
        due(call, got ? 1L : 0L, want ? 1L : 0L);
    }

    static void end() {
        System.out.println(made + " answers, " + wrong + " not as due");
        if (wrong != 0 || made == 0) {
            System.exit(1);
        }
    }
}

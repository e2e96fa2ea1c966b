/** Counts answers that are not the ones due, and ends a test with exit code 1 if there were any. */
final class Check {
    private static final int MOST_PRINTED = 50;
    private int looked = 0;
    private int wrong = 0;

    void due(String call, long got, long want) {
        looked++;
        if (got != want) {
            wrong++;
            if (wrong <= MOST_PRINTED) {
                System.out.println(call + " answered " + got + ", due is " + want);
            }
        }
    }

    void holds(String claim, boolean is) {
        looked++;
        if (!is) {
            wrong++;
            System.out.println("does not hold: " + claim);
        }
    }

    boolean isClean() {
        return wrong == 0;
    }

    void end() {
        System.out.println(looked + " answers looked at, " + wrong + " not as due");
        if (wrong != 0) {
            System.exit(1);
        }
    }
}

import java.util.function.IntUnaryOperator;

/** What tests with answers written out share. */
abstract class TestBase {
    static final int NONE = -6, UNKNOWN = -1, OUTSIDE = -2, STATE = -3, FULL = -4, NO = -5;
    static final int LEAST = Integer.MIN_VALUE, MOST = Integer.MAX_VALUE;
    static final int SURE = 100000000;
    static final Check CHECK = new Check();

    static void due(String call, long got, long want) {
        CHECK.due(call, got, want);
    }

    static long bands(int... band) {
        long told = 0;
        for (int i = band.length - 1; i >= 0; i--) {
            told = told * 101 + band[i];
        }
        return told;
    }

    static MountainWatch withShakes(long... bands) {
        MountainWatch x = new MountainWatch();
        for (long b : bands) {
            x.shake(b);
        }
        return x;
    }

    /** The last days lie beyond the 512 calls that are promised; the class keeps to the document there all the same. */
    static MountainWatch onDay(int day) {
        MountainWatch x = new MountainWatch();
        days(x, day);
        return x;
    }

    static void days(MountainWatch x, int n) {
        for (int i = 0; i < n; i++) {
            x.next();
        }
    }

    /** want: the DAY, THE LEVEL and the REASON. */
    static void message(String name, MountainWatch x, boolean drills, int number, int... want) {
        for (int what = 0; what < 3; what++) {
            due(name + ": message(" + drills + ", " + number + ", " + what + ")",
                    x.message(drills, number, what), want[what]);
        }
    }

    /** The numbers just beyond least and most, and the ends of int, are all refused with the same answer. */
    static void beyond(String sentence, int least, int most, IntUnaryOperator call, int refusal) {
        for (int n : new int[] {least - 1, most + 1, LEAST, MOST, LEAST + 1, MOST - 1}) {
            due(sentence + ": " + n, call.applyAsInt(n), refusal);
        }
    }

    /** The last numbers that are taken on either side, and the first that are OUTSIDE. The call makes its own object. */
    static void bounds(String sentence, int least, int most, IntUnaryOperator call, IntUnaryOperator taken) {
        for (int n : new int[] {least, least + 1, most - 1, most}) {
            due(sentence + ": " + n, call.applyAsInt(n), taken.applyAsInt(n));
        }
        beyond(sentence, least, most, call, OUTSIDE);
    }

    static void bounds(String sentence, int least, int most, IntUnaryOperator call, int taken) {
        bounds(sentence, least, most, call, n -> taken);
    }
}

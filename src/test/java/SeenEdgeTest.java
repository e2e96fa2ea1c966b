/** Each sentence on what is seen (promises 1 to 11) that names a boundary case. */
public final class SeenEdgeTest extends TestBase {
    private static final long ALL_AT_100 = bands(100, 100, 100, 100, 100, 100);

    // ---- 1 a new object

    private static void newObject() {
        for (int what = 0; what <= 10; what++) {
            due("1: told(" + what + ")", new MountainWatch().told(what), what == 9 ? 1 : 0);
        }
        due("1: no SHAKES", new MountainWatch().about(0, 0), UNKNOWN);
        due("1: no LAWS", new MountainWatch().measure(0, 0), UNKNOWN);
        due("1: no MESSAGES", new MountainWatch().message(false, 1, 0), UNKNOWN);
        due("1: nor of DRILLS", new MountainWatch().message(true, 1, 0), UNKNOWN);
        due("1: THE TREE has NODE 0", new MountainWatch().ofNode(0, 0), NONE);
        due("1: and no other", new MountainWatch().ofNode(1, 0), UNKNOWN);
        due("1: NODE 0 is not FEARED", new MountainWatch().fear(0, true), 0);
        due("1: no TILT", new MountainWatch().tiltAt(0), -1000005);
        due("1: no GAS", new MountainWatch().gasOf(0), 0);
        due("1: no HOLD", new MountainWatch().release(), 0);
        due("1: LIKENESS 90 at first", new MountainWatch().likeness(1), 90);
        due("1: REST 3 at first", new MountainWatch().rest(1), 3);
    }

    private static void constants() {
        int[] got = {MountainWatch.UNKNOWN, MountainWatch.OUTSIDE, MountainWatch.STATE, MountainWatch.FULL,
            MountainWatch.NO, MountainWatch.NONE};
        for (int i = 0; i < got.length; i++) {
            due("the constant for " + (-1 - i), got[i], -1 - i);
        }
    }

    // ---- 2 shake

    private static void shakesAre80AtMost() {
        MountainWatch x = new MountainWatch();
        for (int i = 0; i < 80; i++) {
            due("2: SHAKES are numbered from 0 on", x.shake(1 + i), i);
        }
        due("2: the 81st", x.shake(1), FULL);
        due("2: the 81st with the greatest BANDS", x.shake(ALL_AT_100), FULL);
        x.next();
        due("2: the next DAY makes no room", x.shake(1), FULL);
        due("2: SHAKES are 80 still", x.told(7), 80);
        due("2: there is a SHAKE 79", x.about(79, 10), 80);
        due("2: and no SHAKE 80", x.about(80, 0), UNKNOWN);
    }

    private static void outsideComesAheadOfFull() {
        MountainWatch x = new MountainWatch();
        for (int i = 0; i < 80; i++) {
            x.shake(1);
        }
        for (long b : new long[] {0, -1, ALL_AT_100 + 1, Long.MIN_VALUE, Long.MAX_VALUE}) {
            due("2: shake(" + b + ") where all is full", x.shake(b), OUTSIDE);
        }
    }

    private static void bandsNotAsTold() {
        MountainWatch x = new MountainWatch();
        due("2: all BANDS 0", x.shake(0), OUTSIDE);
        due("2: below 0", x.shake(-1), OUTSIDE);
        due("2: below 0 by a digit", x.shake(-101), OUTSIDE);
        due("2: below 0 by all digits", x.shake(-ALL_AT_100), OUTSIDE);
        due("2: the least long", x.shake(Long.MIN_VALUE), OUTSIDE);
        due("2: one above the least long", x.shake(Long.MIN_VALUE + 1), OUTSIDE);
        due("2: a seventh digit", x.shake(ALL_AT_100 + 1), OUTSIDE);
        due("2: a seventh digit and a first", x.shake(ALL_AT_100 + 2), OUTSIDE);
        due("2: 2 to the 40th", x.shake(1L << 40), OUTSIDE);
        due("2: the greatest long", x.shake(Long.MAX_VALUE), OUTSIDE);
        // the lower half of these is a number that would be taken
        due("2: 2 to the 62nd and 1", x.shake((1L << 62) + 1), OUTSIDE);
        due("2: less 2 to the 32nd, and 1", x.shake(1 - (1L << 32)), OUTSIDE);
        due("2: none was kept", x.told(7), 0);
        due("2: the first that is taken still is 0", x.shake(1), 0);
    }

    private static void bandsAreDigitsOf101() {
        for (int i = 0; i < 6; i++) {
            for (int n : new int[] {1, 100}) {
                int[] band = new int[6];
                band[i] = n;
                bandsAre(band);
            }
        }
        bandsAre(100, 100, 100, 100, 100, 100);
        bandsAre(0, 1, 0, 1, 0, 1);
        bandsAre(100, 0, 100, 0, 100, 0);
        bandsAre(1, 2, 3, 4, 5, 6);
        due("3: 100 is BAND 0 alone", withShakes(100).about(0, 10), 100);
        due("3: 101 leaves BAND 0", withShakes(101).about(0, 10), 0);
        due("3: 101 is BAND 1", withShakes(101).about(0, 11), 1);
        due("3: beyond 32 bits, BAND 0", withShakes(1L << 32).about(0, 10), (1L << 32) % 101);
        due("3: beyond 32 bits, BAND 4", withShakes(1L << 32).about(0, 14), (1L << 32) / 104060401);
    }

    private static void bandsAre(int... band) {
        MountainWatch x = withShakes(bands(band));
        for (int i = 0; i < 6; i++) {
            due("3: BAND " + i + " of " + bands(band), x.about(0, 10 + i), band[i]);
        }
    }

    private static void eachShakeIsOfTodayThen() {
        MountainWatch x = withShakes(1);
        days(x, 2);
        x.shake(2);
        x.shake(3);
        x.next();
        int[] day = {0, 2, 2};
        for (int shake = 0; shake < 3; shake++) {
            due("2: the DAY of " + shake, x.about(shake, 0), day[shake]);
        }
    }

    private static void shakeOfTheLastDay() {
        MountainWatch x = onDay(999);
        due("2: on the last DAY", x.shake(1), 0);
        due("3: of the last DAY", x.about(0, 0), 999);
    }

    // ---- 3 about

    private static void aboutWhat() {
        for (int what : new int[] {0, 1, 2, 10, 11, 12, 13, 14, 15}) {
            due("3: about(0, " + what + ") is taken", withShakes(ALL_AT_100).about(0, what) >= 0 ? 1 : 0, 1);
        }
        for (int what : new int[] {LEAST, -1, 3, 4, 9, 16, 17, 20, MOST}) {
            due("3: about(0, " + what + ")", withShakes(ALL_AT_100).about(0, what), OUTSIDE);
        }
    }

    private static void aboutUnknown() {
        beyond("3: about of no SHAKE", 0, 1, shake -> withShakes(1, 2).about(shake, 0), UNKNOWN);
        beyond("3: UNKNOWN ahead of OUTSIDE", 0, 1, shake -> withShakes(1, 2).about(shake, 3), UNKNOWN);
        beyond("3: UNKNOWN ahead of OUTSIDE", 0, 1, shake -> withShakes(1, 2).about(shake, LEAST), UNKNOWN);
        due("3: of the first", withShakes(5, 6).about(0, 10), 5);
        due("3: of the last", withShakes(5, 6).about(1, 10), 6);
    }

    private static void kinds() {
        kindIs("LOW is twice HIGH", 0, 2, 0, 0, 1, 0, 0);
        kindIs("LOW is one less than twice HIGH", 2, 3, 0, 0, 2, 0, 0);
        kindIs("LOW is one more than twice HIGH", 0, 5, 0, 0, 2, 0, 0);
        kindIs("HIGH is twice LOW", 1, 1, 0, 0, 2, 0, 0);
        kindIs("HIGH is one less than twice LOW", 2, 2, 0, 0, 3, 0, 0);
        kindIs("HIGH is one more than twice LOW", 1, 2, 0, 0, 5, 0, 0);
        kindIs("both the same", 2, 50, 0, 0, 50, 0, 0);
        kindIs("the greatest of both", 2, 100, 100, 100, 100, 100, 100);
        kindIs("LOW 300, HIGH 150", 0, 100, 100, 100, 50, 50, 50);
        kindIs("LOW 299, HIGH 150", 2, 100, 99, 100, 50, 50, 50);
        kindIs("LOW 150, HIGH 300", 1, 50, 50, 50, 100, 100, 100);
        kindIs("LOW 150, HIGH 299", 2, 50, 50, 50, 100, 100, 99);
        for (int i = 0; i < 6; i++) {
            int[] band = new int[6];
            band[i] = 1;
            kindIs("BAND " + i + " alone", i < 3 ? 0 : 1, band);
            // BAND i has the weight here that tips it
            int[] tip = {1, 1, 1, 1, 1, 1};
            tip[i] = 4;
            kindIs("BAND " + i + " tips it", i < 3 ? 0 : 1, tip);
            tip[i] = 3;
            kindIs("BAND " + i + " does not tip it", 2, tip);
        }
    }

    private static void kindIs(String which, int kind, int... band) {
        due("3: KIND, " + which, withShakes(bands(band)).about(0, 1), kind);
    }

    // ---- 4 alike

    private static void alikeUnknown() {
        beyond("4: alike(n, 0)", 0, 1, n -> withShakes(1, 1).alike(n, 0), UNKNOWN);
        beyond("4: alike(0, n)", 0, 1, n -> withShakes(1, 1).alike(0, n), UNKNOWN);
        beyond("4: alike(n, n)", 0, 1, n -> withShakes(1, 1).alike(n, n), UNKNOWN);
        due("4: of none at all", new MountainWatch().alike(0, 0), UNKNOWN);
        due("4: the first and the last", withShakes(1, 1).alike(0, 1), 1);
    }

    /** The last LIKENESS at which two are ALIKE, and the first at which they are not. */
    private static void lastLikeness(int last, long a, long b) {
        for (int n = Math.max(1, last - 1); n <= Math.min(100, last + 1); n++) {
            MountainWatch x = withShakes(a, b);
            x.likeness(n);
            due("4: alike(0, 1) of " + a + ", " + b + " at " + n, x.alike(0, 1), n <= last ? 1 : 0);
            due("4: alike(1, 0) of " + a + ", " + b + " at " + n, x.alike(1, 0), n <= last ? 1 : 0);
            due("4: they hang together by it", x.kin(1), n <= last ? 2 : 1);
        }
    }

    private static void alikeAtTheEdge() {
        lastLikeness(100, bands(1), bands(100));
        lastLikeness(100, ALL_AT_100, bands(1, 1, 1, 1, 1, 1));
        lastLikeness(99, ALL_AT_100, bands(100, 100, 100, 100, 100, 99));
        lastLikeness(98, bands(7, 1), bands(1));
        lastLikeness(90, bands(9, 3), bands(1));
        lastLikeness(89, bands(26, 9), bands(1));
        lastLikeness(64, bands(4, 3), bands(1));
        lastLikeness(50, bands(1, 1), bands(1));
        lastLikeness(36, bands(0, 0, 0, 3, 0, 4), bands(0, 0, 0, 1));
        lastLikeness(16, ALL_AT_100, bands(0, 0, 100));
        lastLikeness(1, bands(1, 7, 5, 5), bands(1));
        lastLikeness(0, bands(1, 10), bands(1));
        lastLikeness(0, bands(100, 100, 100), bands(0, 0, 0, 100, 100, 100));
        due("4: 90 at first, just ALIKE", withShakes(bands(9, 3), bands(1)).alike(0, 1), 1);
        due("4: 90 at first, just not ALIKE", withShakes(bands(26, 9), bands(1)).alike(0, 1), 0);
    }

    private static void eachBandCountsForAlike() {
        for (int i = 0; i < 6; i++) {
            for (int j = 0; j < 6; j++) {
                int[] a = new int[6];
                int[] b = new int[6];
                a[i] = 100;
                b[j] = 100;
                due("4: BAND " + i + " and BAND " + j, withShakes(bands(a), bands(b)).alike(0, 1), i == j ? 1 : 0);
            }
        }
    }

    // ---- 5 likeness

    private static void likenessBounds() {
        bounds("5: LIKENESS 1 to 100", 1, 100, n -> new MountainWatch().likeness(n), 90);
        bounds("5: which it was", 1, 100, n -> {
            MountainWatch x = new MountainWatch();
            int was = x.likeness(n);
            return was < 0 ? was : x.likeness(50);
        }, n -> n);
    }

    private static void refusedLikenessChangesNothing() {
        for (int n : new int[] {0, 101, LEAST, MOST}) {
            MountainWatch x = withShakes(bands(1, 1), bands(1));
            x.likeness(50);
            x.likeness(n);
            due("5: ALIKE after likeness(" + n + ")", x.alike(0, 1), 1);
            due("5: FAMILIES after likeness(" + n + ")", x.family(-1), 1);
            due("5: LIKENESS after likeness(" + n + ")", x.likeness(51), 50);
            due("5: and FAMILIES follow one that is taken", x.family(-1), 2);
        }
    }

    // ---- 6 family, 7 kin

    private static void familyNumbers() {
        due("6: how many, of none", new MountainWatch().family(-1), 0);
        due("6: FAMILY 0 of none", new MountainWatch().family(0), NONE);
        MountainWatch x = withShakes(bands(1), bands(1), bands(0, 1), bands(0, 0, 1), bands(0, 1));
        int[] least = {0, 2, 3};
        due("6: how many", x.family(-1), 3);
        for (int i = 0; i < 3; i++) {
            due("6: FAMILY " + i, x.family(i), least[i]);
        }
        for (int i : new int[] {3, 4, 5, 79, 80, MOST, -2, LEAST}) {
            due("6: FAMILY " + i, x.family(i), NONE);
        }
    }

    private static void eightyAlone() {
        MountainWatch x = new MountainWatch();
        x.likeness(100);
        for (int i = 0; i < 80; i++) {
            x.shake(bands(1 + i, 1));
        }
        due("6: 80 FAMILIES", x.family(-1), 80);
        due("6: FAMILY 79", x.family(79), 79);
        due("6: FAMILY 80", x.family(80), NONE);
        due("7: alone", x.kin(79), 1);
    }

    private static void eightyTogether() {
        MountainWatch x = new MountainWatch();
        for (int i = 0; i < 80; i++) {
            x.shake(bands(1 + i));
        }
        due("6: one FAMILY", x.family(-1), 1);
        due("6: FAMILY 0", x.family(0), 0);
        due("6: FAMILY 1", x.family(1), NONE);
        due("7: all 80 from the first", x.kin(0), 80);
        due("7: all 80 from the last", x.kin(79), 80);
        due("3: the FAMILY of the last", x.about(79, 2), 0);
    }

    /** (100, 0), (71, 71), (0, 100): at 50 the one in the middle holds the others together, whatever their order. */
    private static void familiesWhateverTheOrder() {
        long[] chain = {bands(100), bands(71, 71), bands(0, 100)};
        int[][] orders = {{0, 1, 2}, {0, 2, 1}, {1, 0, 2}, {1, 2, 0}, {2, 0, 1}, {2, 1, 0}};
        for (int[] o : orders) {
            MountainWatch x = new MountainWatch();
            x.likeness(50);
            x.shake(bands(0, 0, 1));
            for (int i : o) {
                x.shake(chain[i]);
            }
            String name = "6: in the order " + java.util.Arrays.toString(o);
            due(name + ", how many", x.family(-1), 2);
            due(name + ", FAMILY 1", x.family(1), 1);
            for (int shake = 1; shake <= 3; shake++) {
                due(name + ", the FAMILY of " + shake, x.about(shake, 2), 1);
                due(name + ", kin of " + shake, x.kin(shake), 3);
            }
            due(name + ", the other one's kin", x.kin(0), 1);
            x.likeness(51);
            due(name + ", they fall apart", x.family(-1), 4);
            x.likeness(50);
            due(name + ", and come together again", x.family(-1), 2);
        }
    }

    private static void kinUnknown() {
        due("7: of none at all", new MountainWatch().kin(0), UNKNOWN);
        due("7: the first", withShakes(1, 1).kin(0), 2);
        due("7: the last", withShakes(1, 1).kin(1), 2);
        beyond("7: kin of no SHAKE", 0, 1, shake -> withShakes(1, 1).kin(shake), UNKNOWN);
    }

    // ---- 8 tilt, 10 tiltAt

    private static void tiltBounds() {
        bounds("8: TILT -10000 to 10000", -10000, 10000, v -> new MountainWatch().tilt(v), 1);
        for (int v : new int[] {-10000, -6, -5, -1, 0, 1, 10000}) {
            MountainWatch x = new MountainWatch();
            x.tilt(v);
            due("10: a TILT of " + v, x.tiltAt(0), v);
            x.next();
            due("10: it is that of the DAY after", x.tiltAt(1), v);
        }
    }

    private static void refusedTiltChangesNothing() {
        for (int v : new int[] {-10001, 10001, LEAST, MOST}) {
            MountainWatch x = new MountainWatch();
            x.tilt(v);
            due("8: no TILT after tilt(" + v + ")", x.tiltAt(0), -1000005);
            x.tilt(7);
            x.tilt(v);
            due("8: the TILT stays after tilt(" + v + ")", x.tiltAt(0), 7);
        }
    }

    private static void tiltLatestToldOfTheDay() {
        MountainWatch x = new MountainWatch();
        x.tilt(10000);
        x.tilt(-10000);
        x.next();
        x.tilt(3);
        x.tilt(0);
        due("10: the latest told of DAY 0", x.tiltAt(0), -10000);
        due("10: the latest told of DAY 1", x.tiltAt(1), 0);
    }

    private static void tiltWithGaps() {
        MountainWatch x = onDay(2);
        x.tilt(5);
        days(x, 3);
        x.tilt(6);
        x.next();
        int[] want = {-1000005, -1000005, 5, 5, 5, 6, 6};
        for (int day = 0; day < want.length; day++) {
            due("10: TILT AT " + day, x.tiltAt(day), want[day]);
        }
    }

    private static void tiltUnknown() {
        beyond("10: tiltAt on DAY 0", 0, 0, day -> new MountainWatch().tiltAt(day), -1000001);
        beyond("10: tiltAt on DAY 4", 0, 4, day -> onDay(4).tiltAt(day), -1000001);
        due("10: UNKNOWN though a TILT was told", tiltOf(1).tiltAt(1), -1000001);
        due("10: of the first DAY", onDay(4).tiltAt(0), -1000005);
        due("10: of TODAY", onDay(4).tiltAt(4), -1000005);
    }

    private static MountainWatch tiltOf(int v) {
        MountainWatch x = new MountainWatch();
        x.tilt(v);
        return x;
    }

    // ---- 9 gas, 11 gasOf

    private static void gasBounds() {
        bounds("9: GAS 0 to 10000", 0, 10000, v -> new MountainWatch().gas(v), 1);
        for (int v : new int[] {0, 1, 10000}) {
            MountainWatch x = new MountainWatch();
            x.gas(v);
            due("11: a GAS of " + v, x.gasOf(0), v);
            x.next();
            due("11: it is not that of the DAY after", x.gasOf(1), 0);
        }
    }

    private static void refusedGasChangesNothing() {
        for (int v : new int[] {-1, 10001, LEAST, MOST}) {
            MountainWatch x = new MountainWatch();
            x.gas(v);
            due("9: no GAS after gas(" + v + ")", x.gasOf(0), 0);
            x.gas(7);
            x.gas(v);
            due("9: the GAS stays after gas(" + v + ")", x.gasOf(0), 7);
        }
    }

    private static void gasLatestToldOfTheDay() {
        MountainWatch x = new MountainWatch();
        x.gas(10000);
        x.gas(0);
        x.next();
        x.gas(1);
        x.gas(2);
        due("11: the latest told of DAY 0, not both together", x.gasOf(0), 0);
        due("11: the latest told of DAY 1, not both together", x.gasOf(1), 2);
    }

    private static void gasUnknown() {
        beyond("11: gasOf on DAY 0", 0, 0, day -> new MountainWatch().gasOf(day), UNKNOWN);
        beyond("11: gasOf on DAY 4", 0, 4, day -> onDay(4).gasOf(day), UNKNOWN);
        due("11: of the first DAY", onDay(4).gasOf(0), 0);
        due("11: of TODAY", onDay(4).gasOf(4), 0);
    }

    private static void readingsOfTheLastDay() {
        MountainWatch x = onDay(998);
        x.tilt(1);
        x.gas(2);
        x.next();
        due("10: TILT AT the last DAY, from the one ahead", x.tiltAt(999), 1);
        due("11: GAS of the last DAY", x.gasOf(999), 0);
        due("10: no DAY 1000", x.tiltAt(1000), -1000001);
        due("11: no DAY 1000", x.gasOf(1000), UNKNOWN);
        due("8: TILT of the last DAY", x.tilt(-1), 1);
        due("9: GAS of the last DAY", x.gas(9), 1);
        due("10: as told", x.tiltAt(999), -1);
        due("11: as told", x.gasOf(999), 9);
        due("10: the DAY ahead stays", x.tiltAt(998), 1);
        due("11: the DAY ahead stays", x.gasOf(998), 2);
    }

    public static void main(String[] args) {
        newObject();
        constants();
        shakesAre80AtMost();
        outsideComesAheadOfFull();
        bandsNotAsTold();
        bandsAreDigitsOf101();
        eachShakeIsOfTodayThen();
        shakeOfTheLastDay();
        aboutWhat();
        aboutUnknown();
        kinds();
        alikeUnknown();
        alikeAtTheEdge();
        eachBandCountsForAlike();
        likenessBounds();
        refusedLikenessChangesNothing();
        familyNumbers();
        eightyAlone();
        eightyTogether();
        familiesWhateverTheOrder();
        kinUnknown();
        tiltBounds();
        refusedTiltChangesNothing();
        tiltLatestToldOfTheDay();
        tiltWithGaps();
        tiltUnknown();
        gasBounds();
        refusedGasChangesNothing();
        gasLatestToldOfTheDay();
        gasUnknown();
        readingsOfTheLastDay();
        CHECK.end();
    }
}

/** Each promise of the document: ordinary inputs, the edges that it names, and wrong inputs. */
public final class PromiseTest extends TestBase {
    private static void promise1() {
        MountainWatch x = new MountainWatch();
        int[] want = {0, 0, 0, 0, 0, 0, 0, 0, 0, 1, 0};
        for (int what = 0; what < want.length; what++) {
            due("1: told(" + what + ") of a new object", x.told(what), want[what]);
        }
        due("1: REST at first", x.rest(3), 3);
        due("1: LIKENESS at first", x.likeness(90), 90);
        due("1: NODE 0 is not FEARED", x.ofNode(0, 3), 0);
        due("1: no FAMILY", x.family(-1), 0);
        due("1: no SHAKE 0", x.kin(0), UNKNOWN);
        due("1: no LAW 0", x.isTrue(0, 0), UNKNOWN);
        due("1: no MESSAGE 1", x.message(false, 1, 0), UNKNOWN);
        due("1: no MESSAGE 1 of a DRILL", x.message(true, 1, 0), UNKNOWN);
        due("1: no NODE 1", x.ofNode(1, 0), UNKNOWN);
        due("1: objects are apart", x.word(2) + new MountainWatch().told(1), 1);
    }

    private static void promise2() {
        MountainWatch x = new MountainWatch();
        long[] wrong = {0, -1, Long.MIN_VALUE, Long.MAX_VALUE, 1061520150601L, -1061520150600L, 1L << 41};
        for (long b : wrong) {
            due("2: shake(" + b + ")", x.shake(b), OUTSIDE);
        }
        due("2: nothing was kept", x.told(7), 0);
        due("2: the least", x.shake(1), 0);
        due("2: the greatest", x.shake(1061520150600L), 1);
        for (int i = 2; i < 80; i++) {
            due("2: shake " + i, x.shake(i), i);
        }
        due("2: the 81st", x.shake(5), FULL);
        due("2: OUTSIDE comes ahead of FULL", x.shake(0), OUTSIDE);
        due("2: 80 are kept", x.told(7), 80);
        due("2: the last one stays", x.about(79, 10), 79);
    }

    private static void promise3() {
        MountainWatch x = withShakes(bands(11, 22, 33, 44, 55, 66));
        for (int i = 0; i < 6; i++) {
            due("3: BAND " + i, x.about(0, 10 + i), 11 * (i + 1));
        }
        x.next();
        x.shake(bands(1, 1, 2, 0, 2, 0));
        x.next();
        due("3: the DAY of the first", x.about(0, 0), 0);
        due("3: the DAY of the second", x.about(1, 0), 1);
        due("3: its FAMILY", x.about(1, 2), 1);
        for (int what : new int[] {-1, 3, 9, 16, LEAST, MOST}) {
            due("3: about(0, " + what + ")", x.about(0, what), OUTSIDE);
        }
        for (int shake : new int[] {-1, 2, 80, LEAST, MOST}) {
            due("3: about(" + shake + ", 0)", x.about(shake, 0), UNKNOWN);
            due("3: UNKNOWN comes ahead of OUTSIDE", x.about(shake, 99), UNKNOWN);
        }
        int[][] kinds = {
            {1, 1, 2, 0, 2, 0, 0}, {1, 1, 1, 0, 2, 0, 2}, {0, 2, 0, 1, 2, 1, 1}, {0, 2, 0, 1, 2, 0, 2},
            {1, 0, 0, 0, 0, 0, 0}, {0, 0, 1, 0, 0, 0, 0}, {0, 0, 0, 1, 0, 0, 1}, {0, 0, 0, 0, 0, 100, 1},
            {100, 100, 100, 100, 100, 100, 2}, {100, 0, 100, 50, 50, 0, 0}, {100, 0, 99, 50, 50, 0, 2},
        };
        for (int[] k : kinds) {
            due("3: KIND of " + java.util.Arrays.toString(k),
                    withShakes(bands(k[0], k[1], k[2], k[3], k[4], k[5])).about(0, 1), k[6]);
        }
    }

    private static void promise4() {
        // (9, 0) and (10, 0) point the same way; (3, 4) and (1, 0): 100 * 9 against n * 25, so 36 is the edge
        MountainWatch x = withShakes(bands(9), bands(10), bands(3, 4), bands(1), bands(0, 0, 0, 0, 0, 7));
        due("4: the same way", x.alike(0, 1), 1);
        due("4: with itself", x.alike(2, 2), 1);
        due("4: 36 is below 90", x.alike(2, 3), 0);
        x.likeness(37);
        due("4: 36 is below 37", x.alike(2, 3), 0);
        x.likeness(36);
        due("4: 36 is 36", x.alike(2, 3), 1);
        due("4: the other way round", x.alike(3, 2), 1);
        x.likeness(1);
        due("4: no band together", x.alike(0, 4), 0);
        x.likeness(100);
        due("4: the same way at 100", x.alike(0, 1), 1);
        due("4: great ones, the same way", withShakes(1061520150600L, bands(99, 99, 99, 99, 99, 99)).alike(0, 1), 1);
        MountainWatch y = withShakes(1061520150600L, bands(100, 100, 100, 100, 100, 99));
        y.likeness(100);
        due("4: great ones, not quite", y.alike(0, 1), 0);
        for (int shake : new int[] {-1, 5, LEAST, MOST}) {
            due("4: alike(0, " + shake + ")", x.alike(0, shake), UNKNOWN);
            due("4: alike(" + shake + ", 0)", x.alike(shake, 0), UNKNOWN);
        }
    }

    private static void promise5() {
        MountainWatch x = new MountainWatch();
        due("5: 90 at first", x.likeness(1), 90);
        for (int n : new int[] {0, -1, 101, LEAST, MOST}) {
            due("5: likeness(" + n + ")", x.likeness(n), OUTSIDE);
        }
        due("5: 1 was kept", x.likeness(100), 1);
        due("5: 100 was kept", x.likeness(90), 100);
    }

    private static void promise6() {
        // 0 and 2 hang together only by 3, which comes last: (100, 0), (0, 100), (71, 71) at 50
        MountainWatch x = withShakes(bands(100), bands(0, 0, 0, 0, 1), bands(0, 100));
        x.likeness(50);
        due("6: three", x.family(-1), 3);
        due("6: the last of three", x.family(2), 2);
        x.shake(bands(71, 71));
        due("6: two after the one between", x.family(-1), 2);
        due("6: FAMILY 0", x.family(0), 0);
        due("6: FAMILY 1", x.family(1), 1);
        due("6: of 2", x.about(2, 2), 0);
        due("6: of 3", x.about(3, 2), 0);
        x.likeness(51);
        due("6: they fall apart again", x.family(-1), 4);
        due("6: FAMILY 3", x.family(3), 3);
        for (int i : new int[] {-2, 4, LEAST, MOST}) {
            due("6: family(" + i + ")", x.family(i), NONE);
        }
        due("6: none at all", new MountainWatch().family(0), NONE);

        // a later one draws two families together, and the least number is that of the one told earlier
        MountainWatch y = withShakes(bands(0, 0, 0, 1), bands(0, 100), bands(0, 99), bands(100), bands(99), bands(71, 71));
        y.likeness(50);
        due("6: two", y.family(-1), 2);
        due("6: FAMILY 1 by its least number", y.family(1), 1);
        due("6: of 4", y.about(4, 2), 1);
    }

    private static void promise7() {
        MountainWatch x = withShakes(bands(100), bands(0, 0, 0, 0, 1), bands(0, 100));
        x.likeness(50);
        due("7: alone", x.kin(0), 1);
        x.shake(bands(71, 71));
        int[] want = {3, 1, 3, 3};
        for (int i = 0; i < 4; i++) {
            due("7: kin(" + i + ")", x.kin(i), want[i]);
        }
        for (int shake : new int[] {-1, 4, LEAST, MOST}) {
            due("7: kin(" + shake + ")", x.kin(shake), UNKNOWN);
        }
    }

    private static void promises8And10() {
        MountainWatch x = new MountainWatch();
        due("10: none yet", x.tiltAt(0), -1000005);
        due("10: no such DAY", x.tiltAt(1), -1000001);
        x.next();
        due("8: tilt(-10000)", x.tilt(-10000), 1);
        due("8: tilt(10001)", x.tilt(10001), OUTSIDE);
        due("8: tilt(-10001)", x.tilt(-10001), OUTSIDE);
        due("8: tilt(least)", x.tilt(LEAST), OUTSIDE);
        due("8: tilt(most)", x.tilt(MOST), OUTSIDE);
        due("10: as told", x.tiltAt(1), -10000);
        due("10: the DAY ahead still has none", x.tiltAt(0), -1000005);
        due("8: told anew", x.tilt(-5), 1);
        days(x, 3);
        due("10: a gap", x.tiltAt(3), -5);
        due("10: TODAY", x.tiltAt(4), -5);
        due("8: tilt(10000)", x.tilt(10000), 1);
        due("10: the gap stays", x.tiltAt(3), -5);
        due("10: TODAY anew", x.tiltAt(4), 10000);
        for (int day : new int[] {-1, 5, 999, 1000, LEAST, MOST}) {
            due("10: tiltAt(" + day + ")", x.tiltAt(day), -1000001);
        }
        x.next();
        due("8: tilt(0)", x.tilt(0), 1);
        due("10: 0 is a TILT", x.tiltAt(5), 0);
    }

    private static void promises9And11() {
        MountainWatch x = new MountainWatch();
        due("11: none", x.gasOf(0), 0);
        due("9: gas(10000)", x.gas(10000), 1);
        for (int v : new int[] {-1, 10001, LEAST, MOST}) {
            due("9: gas(" + v + ")", x.gas(v), OUTSIDE);
        }
        due("11: as told", x.gasOf(0), 10000);
        x.next();
        due("11: it does not go on", x.gasOf(1), 0);
        due("9: gas(7)", x.gas(7), 1);
        due("9: gas(3)", x.gas(3), 1);
        due("11: the latest told", x.gasOf(1), 3);
        due("11: of the DAY ahead", x.gasOf(0), 10000);
        due("9: gas(0)", x.gas(0), 1);
        due("11: 0 was told", x.gasOf(1), 0);
        for (int day : new int[] {-1, 2, 999, 1000, LEAST, MOST}) {
            due("11: gasOf(" + day + ")", x.gasOf(day), UNKNOWN);
        }
    }

    private static void promise12() {
        MountainWatch x = new MountainWatch();
        int[][] wrong = {
            {0, 0, 1, 1}, {5, 0, 1, 1}, {1, -1, 1, 1}, {1, 7, 1, 1}, {1, 0, 0, 1}, {1, 0, 10001, 1}, {1, 0, 1, 0},
            {1, 0, 1, 31}, {LEAST, 0, 1, 1}, {1, MOST, 1, 1}, {1, 0, LEAST, 1}, {1, 0, 1, MOST},
        };
        for (int[] w : wrong) {
            due("12: law" + java.util.Arrays.toString(w), x.law(w[0], w[1], w[2], w[3]), OUTSIDE);
        }
        due("12: none was kept", x.told(8), 0);
        due("12: least numbers", x.law(1, 0, 1, 1), 0);
        due("12: greatest numbers", x.law(4, 6, 10000, 30), 1);
        for (int i = 2; i < 8; i++) {
            due("12: law " + i, x.law(1, i - 1, 1, 1), i);
        }
        due("12: the ninth", x.law(1, 0, 1, 1), FULL);
        due("12: OUTSIDE comes ahead of FULL", x.law(1, 0, 1, 31), OUTSIDE);
        due("12: 8 are kept", x.told(8), 8);
    }

    private static void promise13() {
        MountainWatch x = new MountainWatch();
        x.law(2, 6, 50, 1);
        x.gas(50);
        due("13: WANTED at first", x.told(3), 2);
        due("13: change", x.change(0, 4, 50), 1);
        due("13: the LEVEL anew", x.told(3), 4);
        due("13: change", x.change(0, 4, 51), 1);
        due("13: the NUMBER anew", x.isTrue(0, 0), 0);
        due("13: greatest NUMBER", x.change(0, 1, 10000), 1);
        due("13: least NUMBER", x.change(0, 1, 1), 1);
        due("13: both anew", x.told(3), 1);
        int[][] wrong = {{0, 1}, {5, 1}, {1, 0}, {1, 10001}, {LEAST, 1}, {1, LEAST}, {MOST, 1}, {1, MOST}};
        for (int[] w : wrong) {
            due("13: change(0, " + w[0] + ", " + w[1] + ")", x.change(0, w[0], w[1]), OUTSIDE);
            due("13: UNKNOWN comes first", x.change(1, w[0], w[1]), UNKNOWN);
        }
        for (int law : new int[] {-1, 1, LEAST, MOST}) {
            due("13: change(" + law + ", 1, 1)", x.change(law, 1, 1), UNKNOWN);
        }
        due("13: nothing was changed", x.told(3), 1);
        due("13: the MEASURE stays", x.measure(0, 0), 50);
    }

    private static void promise14() {
        MountainWatch x = new MountainWatch();
        for (int measure = 0; measure < 7; measure++) {
            x.law(1, measure, 1, 3);
        }
        x.shake(bands(9));
        x.shake(bands(0, 0, 0, 5));
        x.tilt(-100);
        x.gas(10);
        x.next();
        x.shake(bands(8));
        x.shake(bands(1, 0, 0, 0, 1));
        x.gas(20);
        x.next();
        x.shake(bands(0, 0, 0, 6));
        x.shake(bands(0, 0, 0, 7));
        x.next();
        x.tilt(250);
        x.gas(5);
        x.next();
        int[][] want = {
            {1, 1, 0, 2, 1, 0, 10}, {2, 1, 1, 4, 2, 0, 30}, {2, 3, 1, 6, 3, 0, 30}, {1, 2, 1, 4, 2, 350, 25},
            {0, 2, 0, 2, 2, 350, 5},
        };
        for (int day = 0; day < want.length; day++) {
            for (int law = 0; law < 7; law++) {
                due("14: measure(" + law + ", " + day + ")", x.measure(law, day), want[day][law]);
            }
        }
        for (int n : new int[] {-1, 5, 999, LEAST, MOST}) {
            due("14: measure(0, " + n + ")", x.measure(0, n), UNKNOWN);
        }
        for (int n : new int[] {-1, 7, 8, LEAST, MOST}) {
            due("14: measure(" + n + ", 0)", x.measure(n, 0), UNKNOWN);
        }

        // the family's tie may lie outside the span, but only shakes within it count
        MountainWatch y = withShakes(bands(71, 71));
        y.likeness(50);
        y.law(1, 4, 1, 1);
        y.next();
        due("14: no SHAKES of one FAMILY", y.measure(0, 1), 0);
        y.shake(bands(100));
        y.shake(bands(0, 100));
        due("14: hung together from outside the span", y.measure(0, 1), 2);

        MountainWatch z = new MountainWatch();
        z.law(1, 5, 1, 1);
        z.law(1, 5, 1, 30);
        z.law(1, 6, 1, 30);
        z.gas(10000);
        z.next();
        z.tilt(10000);
        due("14: no TILT the DAY ahead", z.measure(0, 1), 0);
        for (int day = 2; day <= 31; day++) {
            z.gas(10000);
            z.next();
        }
        z.tilt(-10000);
        z.gas(10000);
        due("14: the greatest move in a day", z.measure(0, 31), 20000);
        due("14: in 30 days", z.measure(1, 31), 20000);
        due("14: none 30 days ahead", z.measure(1, 30), 0);
        due("14: the greatest GAS together", z.measure(2, 31), 300000);
    }

    private static void promise15() {
        MountainWatch x = new MountainWatch();
        x.law(1, 3, 2, 2);
        x.shake(1);
        due("15: one is not two", x.isTrue(0, 0), 0);
        x.shake(1);
        due("15: two are two", x.isTrue(0, 0), 1);
        x.shake(1);
        due("15: three, too", x.isTrue(0, 0), 1);
        days(x, 2);
        due("15: within the span", x.isTrue(0, 1), 1);
        due("15: behind the span", x.isTrue(0, 2), 0);
        for (int n : new int[] {-1, 3, LEAST, MOST}) {
            due("15: isTrue(0, " + n + ")", x.isTrue(0, n), UNKNOWN);
            due("15: isTrue(" + n + ", 0)", x.isTrue(n, 0), UNKNOWN);
        }
        // by all that is told now: the likeness of now counts for days gone by
        MountainWatch y = withShakes(bands(1), bands(3, 4));
        y.law(1, 4, 2, 1);
        y.next();
        due("15: two families then", y.isTrue(0, 0), 0);
        y.likeness(36);
        due("15: one family now", y.isTrue(0, 0), 1);
        due("15: THE LEVEL of that DAY stays", y.told(1), 0);
    }

    private static void promise16() {
        MountainWatch x = new MountainWatch();
        due("16: 3 at first", x.rest(30), 3);
        for (int n : new int[] {0, -1, 31, LEAST, MOST}) {
            due("16: rest(" + n + ")", x.rest(n), OUTSIDE);
        }
        due("16: 30 was kept", x.rest(1), 30);
        x.word(2);
        due("16: down after one DAY", x.next(), 1);
        due("16: and another", x.next(), 0);
        x.rest(5);
        x.word(2);
        days(x, 3);
        due("16: CALM is 3", x.told(2), 3);
        x.rest(2);
        due("16: a lesser REST alone changes nothing", x.told(1), 2);
        due("16: CALM above REST, too", x.next(), 1);
        due("16: CALM is 0 at a change", x.told(2), 0);
    }

    private static void promise17() {
        MountainWatch x = new MountainWatch();
        x.law(2, 6, 10, 1);
        x.law(4, 6, 100, 1);
        x.law(4, 6, 90, 1);
        x.rest(2);
        due("17: nothing is wanted", x.next(), 0);
        due("17: CALM stays 0 at LEVEL 0", x.told(2), 0);
        x.gas(10);
        due("17: up", x.next(), 2);
        message("17", x, false, 1, 1, 2, 0);
        x.gas(95);
        due("17: two at once", x.next(), 4);
        message("17: the law that is TRUE, not the lesser one that is not", x, false, 2, 2, 4, 2);
        due("17: a calm DAY", x.next(), 4);
        due("17: CALM 1", x.told(2), 1);
        x.gas(100);
        due("17: wanted again", x.next(), 4);
        due("17: CALM 0 again", x.told(2), 0);
        due("17: no MESSAGE of it", x.told(4), 2);
        x.gas(10);
        due("17: less is wanted: calm", x.next(), 4);
        due("17: the second", x.next(), 3);
        message("17", x, false, 3, 6, 3, 21);
        due("17: CALM begins anew", x.told(2), 0);
        days(x, 2);
        due("17: 2", x.told(1), 2);
        days(x, 2);
        due("17: 1", x.told(1), 1);
        days(x, 2);
        due("17: 0", x.told(1), 0);
        days(x, 5);
        due("17: not below 0", x.told(1), 0);
        due("17: no more MESSAGES", x.told(4), 6);
        due("17: CALM 0 at LEVEL 0", x.told(2), 0);

        MountainWatch y = new MountainWatch();
        y.law(3, 6, 1, 1);
        y.law(3, 6, 1, 1);
        y.hold(3, 1);
        y.gas(1);
        y.next();
        message("17: the least law ahead of a HOLD", y, false, 1, 0, 3, 0);

        MountainWatch z = new MountainWatch();
        for (int i = 0; i < 999; i++) {
            due("17: day " + i, z.next(), 0);
        }
        due("17: TODAY is 999", z.told(0), 999);
        due("17: no further", z.next(), STATE);
        due("17: TODAY stays", z.told(0), 999);
        due("17: the last DAY takes a TILT", z.tilt(4), 1);
        due("17: and tells it", z.tiltAt(999), 4);
        due("17: and GAS", z.gas(4), 1);
        due("17: and tells it", z.gasOf(999), 4);
        due("17: and a HOLD beyond it", z.hold(1, 100), 1099);
    }

    private static void promise18() {
        MountainWatch x = new MountainWatch();
        int[][] wrong = {{0, 1}, {5, 1}, {1, 0}, {1, 101}, {LEAST, 1}, {1, LEAST}, {MOST, 1}, {1, MOST}};
        for (int[] w : wrong) {
            due("18: hold(" + w[0] + ", " + w[1] + ")", x.hold(w[0], w[1]), OUTSIDE);
        }
        due("18: no HOLD yet", x.told(6), 0);
        x.next();
        due("18: the first DAY without it", x.hold(4, 100), 101);
        due("18: a new one takes its place, with less", x.hold(2, 2), 3);
        due("18: of TODAY", x.told(6), 2);
        due("18: THE LEVEL not at once", x.told(1), 0);
        due("18: at the end of the DAY", x.next(), 2);
        message("18", x, false, 1, 1, 2, 20);
        due("18: still", x.told(3), 2);
        x.next();
        due("18: over", x.told(6), 0);
        due("18: nothing WANTED", x.told(3), 0);
        x.law(1, 6, 1, 1);
        x.gas(1);
        x.hold(3, 1);
        due("18: the HOLD is above the law", x.told(3), 3);
        x.change(0, 4, 1);
        due("18: the law is above the HOLD", x.told(3), 4);
        due("18: hold(0, 5) refused", x.hold(0, 5), OUTSIDE);
        due("18: the HOLD stays", x.told(6), 3);
    }

    private static void promise19() {
        MountainWatch x = new MountainWatch();
        due("19: none", x.release(), 0);
        x.hold(3, 2);
        due("19: its LEVEL", x.release(), 3);
        due("19: it is gone", x.release(), 0);
        due("19: not of TODAY", x.told(6), 0);
        due("19: nor WANTED", x.next(), 0);
        x.hold(4, 2);
        x.next();
        due("19: on its last DAY", x.release(), 4);
        x.hold(1, 1);
        x.next();
        due("19: one that is over is none", x.release(), 0);
        due("19: told anew", x.hold(2, 3), 6);
        due("19: as ever", x.told(6), 2);
    }

    private static void promise20() {
        MountainWatch x = new MountainWatch();
        x.next();
        due("20: word(4)", x.word(4), 1);
        due("20: at once", x.told(1), 4);
        message("20", x, false, 1, 1, 4, 22);
        days(x, 2);
        due("20: CALM goes on", x.told(2), 2);
        due("20: one that leaves it", x.word(4), 2);
        due("20: CALM 0", x.told(2), 0);
        message("20", x, false, 2, 3, 4, 22);
        due("20: word(0)", x.word(0), 3);
        due("20: down at once", x.told(1), 0);
        for (int n : new int[] {-1, 5, LEAST, MOST}) {
            due("20: word(" + n + ")", x.word(n), OUTSIDE);
        }
        due("20: no MESSAGE of these", x.told(4), 3);
        x.hold(2, 1);
        due("20: word(1)", x.word(1), 4);
        due("20: WANTED goes on", x.next(), 2);
        message("20", x, false, 5, 3, 2, 20);
    }

    private static void promise21() {
        MountainWatch x = new MountainWatch();
        x.word(2);
        x.next();
        due("21: drill(4)", x.drill(4), 1);
        due("21: drill(0)", x.drill(0), 2);
        message("21", x, true, 1, 1, 4, 23);
        message("21", x, true, 2, 1, 0, 23);
        for (int n : new int[] {-1, 5, LEAST, MOST}) {
            due("21: drill(" + n + ")", x.drill(n), OUTSIDE);
        }
        due("21: THE LEVEL stays", x.told(1), 2);
        due("21: CALM stays", x.told(2), 1);
        due("21: MESSAGES stay", x.told(4), 1);
        due("21: those of DRILLS", x.told(5), 2);
        due("21: the latest DRILL", x.told(10), 0);
        x.drill(3);
        due("21: the latest DRILL", x.told(10), 3);
    }

    private static void promise22() {
        MountainWatch x = new MountainWatch();
        x.word(1);
        x.drill(2);
        message("22", x, false, 1, 0, 1, 22);
        message("22: of DRILLS", x, true, 1, 0, 2, 23);
        for (int number : new int[] {0, -1, 2, 200, 201, LEAST, MOST}) {
            due("22: message(false, " + number + ", 0)", x.message(false, number, 0), UNKNOWN);
            due("22: message(true, " + number + ", 0)", x.message(true, number, 0), UNKNOWN);
            due("22: UNKNOWN comes ahead of OUTSIDE", x.message(false, number, 3), UNKNOWN);
        }
        for (int what : new int[] {-1, 3, LEAST, MOST}) {
            due("22: message(false, 1, " + what + ")", x.message(false, 1, what), OUTSIDE);
        }
        for (int i = 2; i <= 120; i++) {
            due("22: word " + i, x.word(i % 5), i);
        }
        for (int i = 2; i <= 80; i++) {
            due("22: drill " + i, x.drill(i % 5), i);
        }
        message("22: the last MESSAGE that is kept", x, false, 120, 0, 0, 22);
        message("22: the last of DRILLS", x, true, 80, 0, 0, 23);
        due("22: the 201st of both is numbered", x.drill(4), 81);
        due("22: but not kept", x.message(true, 81, 0), UNKNOWN);
        due("22: nor is a WORD then, which is numbered", x.word(3), 121);
        due("22: but not kept", x.message(false, 121, 9), UNKNOWN);
        due("22: THE LEVEL is so all the same", x.told(1), 3);
        due("22: and the DRILL's", x.told(10), 4);
        due("22: MESSAGES, numbered", x.told(4), 121);
        due("22: those of DRILLS", x.told(5), 81);
        message("22: the older ones stay", x, false, 120, 0, 0, 22);
        message("22: the older ones of DRILLS stay", x, true, 79, 0, 4, 23);
    }

    private static void promise23() {
        MountainWatch x = new MountainWatch();
        days(x, 2);
        x.law(3, 3, 1, 1);
        x.law(2, 3, 1, 1);
        x.word(4);
        x.word(4);
        x.next();
        x.shake(1);
        x.shake(1);
        x.shake(1);
        x.drill(1);
        x.hold(1, 1);
        x.node(0, 1, 1);
        int[] want = {3, 4, 1, 3, 2, 1, 1, 3, 2, 2, 1};
        for (int what = 0; what < want.length; what++) {
            due("23: told(" + what + ")", x.told(what), want[what]);
        }
        for (int what : new int[] {-1, 11, LEAST, MOST}) {
            due("23: told(" + what + ")", x.told(what), OUTSIDE);
        }
    }

    private static void promise24() {
        MountainWatch x = new MountainWatch();
        int[][] wrong = {{-1, 1}, {0, 101}, {2, 1}, {101, 101}, {LEAST, 1}, {1, MOST}, {1, LEAST}, {MOST, 1}};
        for (int[] w : wrong) {
            due("24: node(0, " + w[0] + ", " + w[1] + ")", x.node(0, w[0], w[1]), OUTSIDE);
            due("24: UNKNOWN comes first", x.node(1, w[0], w[1]), UNKNOWN);
        }
        for (int parent : new int[] {-1, 1, 24, LEAST, MOST}) {
            due("24: node(" + parent + ", 0, 1)", x.node(parent, 0, 1), UNKNOWN);
        }
        x.fear(0, true);
        due("24: NODE 0 is a FEARED END", x.chance(0, 0), 100000000);
        for (int i = 1; i <= 6; i++) {
            due("24: child " + i, x.node(0, 0, 100), i);
        }
        due("24: FEARED does not count there", x.chance(0, 1), 0);
        due("24: the seventh of one parent", x.node(0, 0, 100), NO);
        due("24: OUTSIDE comes ahead of NO", x.node(0, 0, 101), OUTSIDE);
        due("24: below 1", x.node(1, 0, 0), 7);
        due("24: below 7", x.node(7, 100, 100), 8);
        due("24: the fourth below", x.node(8, 100, 100), 9);
        due("24: the fifth below", x.node(9, 100, 100), NO);
        due("24: nothing was added", x.told(9), 10);
        for (int i = 10; i < 24; i++) {
            due("24: node " + i, x.node(2 + (i - 10) / 6, 0, 100), i);
        }
        due("24: the 25th", x.node(6, 0, 100), FULL);
        due("24: FULL comes ahead of NO", x.node(0, 0, 100), FULL);
        due("24: FULL comes ahead of NO", x.node(9, 0, 100), FULL);
        due("24: OUTSIDE comes ahead of FULL", x.node(6, 1, 0), OUTSIDE);
        due("24: 24 are kept", x.told(9), 24);
    }

    private static void promise25() {
        MountainWatch x = new MountainWatch();
        x.node(0, 10, 20);
        due("25: share(1, 0, 100)", x.share(1, 0, 100), 1);
        due("25: LOW anew", x.ofNode(1, 1), 0);
        due("25: HIGH anew", x.ofNode(1, 2), 100);
        due("25: share(1, 100, 100)", x.share(1, 100, 100), 1);
        due("25: LOW anew", x.ofNode(1, 1), 100);
        int[][] wrong = {{-1, 1}, {0, 101}, {2, 1}, {101, 101}, {LEAST, 1}, {1, MOST}, {1, LEAST}, {MOST, 1}};
        for (int[] w : wrong) {
            due("25: share(1, " + w[0] + ", " + w[1] + ")", x.share(1, w[0], w[1]), OUTSIDE);
            due("25: UNKNOWN comes first", x.share(0, w[0], w[1]), UNKNOWN);
        }
        for (int node : new int[] {0, -1, 2, 24, LEAST, MOST}) {
            due("25: share(" + node + ", 1, 2)", x.share(node, 1, 2), UNKNOWN);
        }
        due("25: LOW stays", x.ofNode(1, 1), 100);
    }

    private static void promise26() {
        MountainWatch x = new MountainWatch();
        due("26: it was not", x.fear(0, true), 0);
        due("26: it was", x.fear(0, true), 1);
        due("26: told", x.ofNode(0, 3), 1);
        due("26: it was", x.fear(0, false), 1);
        due("26: it was not", x.fear(0, false), 0);
        x.node(0, 100, 100);
        due("26: one with children, too", x.fear(0, true), 0);
        due("26: of the child", x.fear(1, true), 0);
        due("26: both are apart", x.fear(0, false), 1);
        due("26: the child stays", x.ofNode(1, 3), 1);
        for (int node : new int[] {-1, 2, 24, LEAST, MOST}) {
            due("26: fear(" + node + ", true)", x.fear(node, true), UNKNOWN);
        }
    }

    private static void promise27() {
        MountainWatch x = new MountainWatch();
        due("27: NODE 0 alone", x.sound(), 1);
        x.node(0, 40, 99);
        due("27: HIGH below 100", x.sound(), 0);
        x.share(1, 40, 100);
        due("27: HIGH is 100", x.sound(), 1);
        x.node(0, 60, 60);
        due("27: LOWS are 100", x.sound(), 1);
        x.share(1, 41, 100);
        due("27: LOWS above 100", x.sound(), 0);
        x.share(1, 40, 40);
        due("27: just one way", x.sound(), 1);
        x.node(2, 0, 0);
        due("27: deeper down", x.sound(), 0);
        x.node(2, 99, 100);
        due("27: mended", x.sound(), 1);
    }

    private static void promise28() {
        MountainWatch x = new MountainWatch();
        due("28: an END that is not FEARED", x.chance(0, 1), 0);
        x.node(0, 0, 50);
        x.node(0, 10, 50);
        x.node(0, 5, 20);
        x.node(0, 0, 50);
        x.fear(2, true);
        x.node(3, 10, 40);
        x.node(3, 60, 90);
        x.fear(5, true);
        // NODE 3: 10 to 40 hundredths. Least: 2 gets 10, 3 gets 5. Greatest: 2 gets 50, 3 gets 20.
        due("28: the least of 3", x.chance(3, 0), 10000000);
        due("28: the greatest of 3", x.chance(3, 1), 40000000);
        due("28: the least of 0", x.chance(0, 0), 10000000 + 500000);
        due("28: the greatest of 0", x.chance(0, 1), 50000000 + 8000000);
        due("28: a FEARED END", x.chance(2, 0), 100000000);
        due("28: an END that is not", x.chance(6, 1), 0);
        for (int side : new int[] {-1, 2, LEAST, MOST}) {
            due("28: chance(0, " + side + ")", x.chance(0, side), OUTSIDE);
            due("28: UNKNOWN comes first", x.chance(7, side), UNKNOWN);
        }
        for (int node : new int[] {-1, 7, 24, LEAST, MOST}) {
            due("28: chance(" + node + ", 0)", x.chance(node, 0), UNKNOWN);
        }
        x.share(6, 95, 100);
        due("28: not SOUND", x.chance(0, 0), NO);
        due("28: not SOUND, elsewhere", x.chance(2, 0), NO);
        due("28: OUTSIDE comes ahead of NO", x.chance(0, 2), OUTSIDE);
        due("28: UNKNOWN comes ahead of NO", x.chance(7, 0), UNKNOWN);

        // four below one another, each with a share of just 1 (least) or 99 (greatest) hundredths
        MountainWatch y = new MountainWatch();
        int parent = 0;
        for (int i = 0; i < 4; i++) {
            int child = y.node(parent, 1, 99);
            y.node(parent, 1, 99);
            parent = child;
        }
        y.fear(parent, true);
        due("28: 1 to the fourth", y.chance(0, 0), 1);
        due("28: 99 to the fourth", y.chance(0, 1), 99 * 99 * 99 * 99);
        due("28: from further down", y.chance(1, 0), 100);

        MountainWatch z = new MountainWatch();
        z.node(0, 0, 100);
        z.fear(1, true);
        due("28: an only child has all", z.chance(0, 0), 100000000);
        z.share(1, 10, 20);
        z.node(0, 0, 10);
        z.node(0, 30, 70);
        due("28: all children at their HIGHS, the least", z.chance(0, 0), 20000000);
        z.fear(3, true);
        due("28: all children at their HIGHS, the greatest", z.chance(0, 1), 90000000);
    }

    private static void promise29() {
        MountainWatch x = new MountainWatch();
        int[] first = {NONE, 100, 100, 0, 0, 0};
        for (int what = 0; what < 6; what++) {
            due("29: ofNode(0, " + what + ")", x.ofNode(0, what), first[what]);
        }
        x.node(0, 3, 4);
        x.node(1, 5, 60);
        x.node(1, 7, 8);
        x.fear(3, true);
        int[][] want = {{NONE, 100, 100, 0, 1, 0}, {0, 3, 4, 0, 2, 1}, {1, 5, 60, 0, 0, 2}, {1, 7, 8, 1, 0, 2}};
        for (int node = 0; node < 4; node++) {
            for (int what = 0; what < 6; what++) {
                due("29: ofNode(" + node + ", " + what + ")", x.ofNode(node, what), want[node][what]);
            }
        }
        for (int what : new int[] {-1, 6, LEAST, MOST}) {
            due("29: ofNode(0, " + what + ")", x.ofNode(0, what), OUTSIDE);
        }
        for (int node : new int[] {-1, 4, 24, LEAST, MOST}) {
            due("29: ofNode(" + node + ", 0)", x.ofNode(node, 0), UNKNOWN);
            due("29: UNKNOWN comes ahead of OUTSIDE", x.ofNode(node, 6), UNKNOWN);
        }
    }

    public static void main(String[] args) {
        promise1();
        promise2();
        promise3();
        promise4();
        promise5();
        promise6();
        promise7();
        promises8And10();
        promises9And11();
        promise12();
        promise13();
        promise14();
        promise15();
        promise16();
        promise17();
        promise18();
        promise19();
        promise20();
        promise21();
        promise22();
        promise23();
        promise24();
        promise25();
        promise26();
        promise27();
        promise28();
        promise29();
        CHECK.end();
    }
}

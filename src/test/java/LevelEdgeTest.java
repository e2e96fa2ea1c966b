/** Each sentence on laws, levels and messages (promises 12 to 23) that names a boundary case. */
public final class LevelEdgeTest extends TestBase {
    private static final int[] REFUSED_LEVELS_OF_LAWS = {LEAST, -1, 0, 5, MOST};
    private static final int[] REFUSED_LEVELS = {LEAST, -1, 5, MOST};

    private static MountainWatch withLaw(int level, int measure, int number, int span) {
        MountainWatch x = new MountainWatch();
        x.law(level, measure, number, span);
        return x;
    }

    /** Laws 0 to 6 with the measures 0 to 6. */
    private static MountainWatch withAllMeasures(int span) {
        MountainWatch x = new MountainWatch();
        for (int measure = 0; measure <= 6; measure++) {
            x.law(1, measure, 1, span);
        }
        return x;
    }

    // ---- 12 law

    private static void lawBounds() {
        bounds("12: LEVEL 1 to 4", 1, 4, n -> new MountainWatch().law(n, 3, 1, 1), 0);
        bounds("12: MEASURE 0 to 6", 0, 6, n -> new MountainWatch().law(1, n, 1, 1), 0);
        bounds("12: NUMBER 1 to 10000", 1, 10000, n -> new MountainWatch().law(1, 3, n, 1), 0);
        bounds("12: SPAN 1 to 30", 1, 30, n -> new MountainWatch().law(1, 3, 1, n), 0);
    }

    private static void lawsAre8AtMost() {
        MountainWatch x = new MountainWatch();
        for (int i = 0; i < 8; i++) {
            due("12: LAWS are numbered from 0 on", x.law(1, 6, 1 + i, 1), i);
        }
        due("12: the ninth", x.law(4, 6, 1, 1), FULL);
        due("12: OUTSIDE ahead of FULL, LEVEL", x.law(0, 6, 1, 1), OUTSIDE);
        due("12: OUTSIDE ahead of FULL, MEASURE", x.law(1, 7, 1, 1), OUTSIDE);
        due("12: OUTSIDE ahead of FULL, NUMBER", x.law(1, 6, 0, 1), OUTSIDE);
        due("12: OUTSIDE ahead of FULL, SPAN", x.law(1, 6, 1, 31), OUTSIDE);
        due("12: LAWS are 8 still", x.told(8), 8);
        due("12: no LAW 8", x.isTrue(8, 0), UNKNOWN);
        x.gas(8);
        due("12: the ninth does not count", x.told(3), 1);
        due("12: LAW 7 does", x.isTrue(7, 0), 1);
        x.gas(7);
        due("12: with its own NUMBER", x.isTrue(7, 0), 0);
    }

    private static void refusedLawLeavesNoLaw() {
        MountainWatch x = new MountainWatch();
        x.gas(1);
        x.law(5, 6, 1, 1);
        x.law(4, 6, 1, 31);
        x.law(4, 7, 1, 1);
        due("12: none", x.told(8), 0);
        due("12: nothing WANTED", x.told(3), 0);
        due("12: the first that is taken is 0", x.law(2, 6, 1, 1), 0);
        due("12: with its own LEVEL", x.told(3), 2);
    }

    // ---- 13 change

    private static void changeBounds() {
        bounds("13: LEVEL 1 to 4", 1, 4, n -> withLaw(2, 6, 5, 1).change(0, n, 5), 1);
        bounds("13: NUMBER 1 to 10000", 1, 10000, n -> withLaw(2, 6, 5, 1).change(0, 2, n), 1);
        beyond("13: no such LAW", 0, 0, n -> withLaw(2, 6, 5, 1).change(n, 2, 5), UNKNOWN);
        beyond("13: UNKNOWN ahead of OUTSIDE, LEVEL", 0, 0, n -> withLaw(2, 6, 5, 1).change(n, 5, 5), UNKNOWN);
        beyond("13: UNKNOWN ahead of OUTSIDE, NUMBER", 0, 0, n -> withLaw(2, 6, 5, 1).change(n, 2, 0), UNKNOWN);
        due("13: of none at all", new MountainWatch().change(0, 1, 1), UNKNOWN);
        due("13: OUTSIDE, both", withLaw(2, 6, 5, 1).change(0, 0, 0), OUTSIDE);
    }

    private static void lastLawIsChangedAlone() {
        MountainWatch x = new MountainWatch();
        for (int i = 0; i < 8; i++) {
            x.law(1, 6, 5, 1);
        }
        x.gas(5);
        due("13: LAW 7", x.change(7, 4, 5), 1);
        due("13: LAW 8", x.change(8, 4, 5), UNKNOWN);
        x.next();
        message("13: it alone has the LEVEL", x, false, 1, 0, 4, 7);
    }

    private static void refusedChangeChangesNothing() {
        for (int level : REFUSED_LEVELS_OF_LAWS) {
            MountainWatch x = withLaw(2, 6, 5, 1);
            x.gas(5);
            x.change(0, level, 6);
            due("13: the NUMBER stays after LEVEL " + level, x.isTrue(0, 0), 1);
            due("13: the LEVEL stays after LEVEL " + level, x.told(3), 2);
        }
        for (int number : new int[] {LEAST, -1, 0, 10001, MOST}) {
            MountainWatch x = withLaw(2, 6, 5, 1);
            x.gas(5);
            x.change(0, 3, number);
            due("13: the LEVEL stays after NUMBER " + number, x.told(3), 2);
            x.gas(4);
            due("13: the NUMBER stays after NUMBER " + number, x.isTrue(0, 0), 0);
        }
    }

    private static void changeKeepsMeasureAndSpan() {
        MountainWatch x = withLaw(2, 6, 5, 2);
        x.gas(3);
        x.next();
        x.gas(4);
        x.change(0, 3, 7);
        due("13: the MEASURE and SPAN stay", x.measure(0, 1), 7);
        due("13: THE LEVEL does not change at once", x.told(1), 0);
        due("13: but at the end of the DAY", x.next(), 3);
    }

    // ---- 14 measure

    private static void measureUnknown() {
        beyond("14: no such LAW", 0, 0, n -> withLaw(1, 3, 1, 1).measure(n, 0), UNKNOWN);
        beyond("14: no such DAY, on DAY 0", 0, 0, n -> withLaw(1, 3, 1, 1).measure(0, n), UNKNOWN);
        beyond("14: neither", 0, 0, n -> withLaw(1, 3, 1, 1).measure(n, n), UNKNOWN);
        for (int measure = 0; measure <= 6; measure++) {
            int m = measure;
            beyond("14: no such DAY, on DAY 40, of MEASURE " + m, 0, 40, n -> {
                MountainWatch x = withLaw(1, m, 1, 30);
                days(x, 40);
                return x.measure(0, n);
            }, UNKNOWN);
        }
        due("14: of none at all", new MountainWatch().measure(0, 0), UNKNOWN);
    }

    private static void measuresOfAnEmptyDay() {
        for (int span : new int[] {1, 2, 29, 30}) {
            MountainWatch x = withAllMeasures(span);
            for (int law = 0; law <= 6; law++) {
                due("14: nothing yet, MEASURE " + law, x.measure(law, 0), 0);
            }
            days(x, 31);
            for (int law = 0; law <= 6; law++) {
                due("14: nothing at all, MEASURE " + law, x.measure(law, 31), 0);
            }
        }
    }

    /** What is seen on DAY 3 alone counts on DAYS 3 to 2 and SPAN: the first and the last of these, and their neighbours. */
    private static void spanOfDays() {
        for (int span : new int[] {1, 2, 3, 4, 5, 29, 30}) {
            MountainWatch x = withAllMeasures(span);
            days(x, 3);
            x.shake(bands(1));
            x.shake(bands(0, 0, 0, 1));
            x.shake(bands(1, 0, 0, 1));
            x.gas(9);
            days(x, 37);
            int[] counted = {1, 1, 1, 3, 1, 0, 9};
            for (int day : new int[] {0, 2, 3, 4, 1 + span, 2 + span, 3 + span, 40}) {
                boolean within = day >= 3 && day <= 2 + span;
                for (int law = 0; law <= 6; law++) {
                    due("14: MEASURE " + law + " on DAY " + day + " with SPAN " + span,
                            x.measure(law, day), within ? counted[law] : 0);
                }
            }
        }
    }

    /** Days below 0 are left out, and do not wrap around. */
    private static void spanNotBelowDay0() {
        for (int span : new int[] {1, 2, 30}) {
            MountainWatch x = withAllMeasures(span);
            x.shake(bands(1));
            x.gas(4);
            days(x, 35);
            x.shake(bands(1));
            x.gas(5);
            due("14: SHAKES up to DAY 0, SPAN " + span, x.measure(3, 0), 1);
            due("14: of a FAMILY up to DAY 0, SPAN " + span, x.measure(4, 0), 1);
            due("14: GAS up to DAY 0, SPAN " + span, x.measure(6, 0), 4);
            due("14: the last DAY that has DAY 0 in it, SPAN " + span, x.measure(3, span - 1), 1);
            due("14: its GAS, SPAN " + span, x.measure(6, span - 1), 4);
            due("14: the first that has not, SPAN " + span, x.measure(3, span), 0);
            due("14: its GAS, SPAN " + span, x.measure(6, span), 0);
        }
    }

    private static void mostShakesOfOneFamily() {
        MountainWatch x = withLaw(1, 4, 1, 2);
        long[] told = {bands(1), bands(0, 1), bands(0, 2), bands(1), bands(0, 0, 1), bands(0, 3), bands(2)};
        for (int i = 0; i < 3; i++) {
            x.shake(told[i]);
        }
        due("14: two of FAMILY 1", x.measure(0, 0), 2);
        x.next();
        for (int i = 3; i < 7; i++) {
            x.shake(told[i]);
        }
        due("14: three of each", x.measure(0, 1), 3);
        x.next();
        due("14: two of FAMILY 0 without its least number", x.measure(0, 2), 2);
        x.next();
        due("14: none", x.measure(0, 3), 0);
        x.likeness(1);
        due("14: by LIKENESS as it is now", x.measure(0, 0), 2);
    }

    private static void eightyOfOneFamily() {
        MountainWatch x = withAllMeasures(1);
        for (int i = 0; i < 80; i++) {
            x.shake(bands(1));
        }
        int[] want = {80, 0, 0, 80, 80, 0, 0};
        for (int law = 0; law <= 6; law++) {
            due("14: MEASURE " + law + " of 80 SHAKES", x.measure(law, 0), want[law]);
        }
    }

    /** TILT 5 from DAY 2 on, -7 from DAY 6 on. */
    private static void tiltLessTilt() {
        for (int span : new int[] {1, 2, 3, 4, 5, 6, 29, 30}) {
            MountainWatch x = withLaw(1, 5, 1, span);
            days(x, 2);
            x.tilt(5);
            days(x, 4);
            x.tilt(-7);
            days(x, 34);
            for (int day = 0; day <= 40; day++) {
                int then = day - span;
                boolean isThere = then >= 2;
                boolean moved = then < 6 && day >= 6;
                due("14: TILT on DAY " + day + " with SPAN " + span, x.measure(0, day), isThere && moved ? 12 : 0);
            }
        }
    }

    private static void tiltBelowSpan() {
        for (int span : new int[] {2, 3, 29, 30}) {
            MountainWatch x = withLaw(1, 5, 1, span);
            x.tilt(-10000);
            days(x, span - 1);
            x.tilt(10000);
            due("14: the DAY is below SPAN " + span, x.measure(0, span - 1), 0);
            x.next();
            due("14: the DAY is SPAN " + span, x.measure(0, span), 20000);
        }
        MountainWatch y = withLaw(1, 5, 1, 1);
        y.tilt(7);
        due("14: DAY 0 is below SPAN 1", y.measure(0, 0), 0);
        y.next();
        y.tilt(-7);
        due("14: DAY 1 is SPAN 1", y.measure(0, 1), 14);
    }

    private static void greatestTilts() {
        MountainWatch x = withLaw(1, 5, 10000, 1);
        x.tilt(10000);
        x.next();
        x.tilt(-10000);
        due("14: down by 20000", x.measure(0, 1), 20000);
        x.next();
        x.tilt(10000);
        due("14: up by 20000", x.measure(0, 2), 20000);
        x.tilt(0);
        due("14: up by 10000", x.measure(0, 2), 10000);
        due("15: which is NUMBER", x.isTrue(0, 2), 1);
        x.tilt(-1);
        due("15: 9999 is below NUMBER", x.isTrue(0, 2), 0);
    }

    private static void greatestGas() {
        MountainWatch x = withLaw(1, 6, 10000, 30);
        for (int day = 0; day < 31; day++) {
            x.gas(10000);
            due("14: GAS of " + (day + 1) + " DAYS", x.measure(0, day), 10000 * Math.min(day + 1, 30));
            x.next();
        }
        due("14: without GAS of TODAY", x.measure(0, 31), 290000);
    }

    private static void measuresOfTheLastDay() {
        MountainWatch x = withAllMeasures(1);
        days(x, 998);
        x.tilt(4);
        x.next();
        x.tilt(1);
        x.gas(2);
        x.shake(bands(1));
        int[] want = {1, 0, 0, 1, 1, 3, 2};
        for (int law = 0; law <= 6; law++) {
            due("14: MEASURE " + law + " on the last DAY", x.measure(law, 999), want[law]);
            due("14: MEASURE " + law + " on DAY 1000", x.measure(law, 1000), UNKNOWN);
        }
    }

    // ---- 15 isTrue

    private static void isTrueUnknown() {
        beyond("15: no such LAW", 0, 0, n -> withLaw(1, 3, 1, 1).isTrue(n, 0), UNKNOWN);
        beyond("15: no such DAY", 0, 0, n -> withLaw(1, 3, 1, 1).isTrue(0, n), UNKNOWN);
        beyond("15: neither", 0, 0, n -> withLaw(1, 3, 1, 1).isTrue(n, n), UNKNOWN);
        beyond("15: no such DAY, on DAY 40", 0, 40, n -> {
            MountainWatch x = withLaw(1, 3, 1, 30);
            days(x, 40);
            return x.isTrue(0, n);
        }, UNKNOWN);
        due("15: of none at all", new MountainWatch().isTrue(0, 0), UNKNOWN);
    }

    private static void numberOrMore() {
        for (int number : new int[] {1, 2, 9999, 10000}) {
            MountainWatch x = withLaw(1, 6, number, 2);
            x.gas(number - 1);
            due("15: one less than " + number, x.isTrue(0, 0), 0);
            x.gas(number);
            due("15: just " + number, x.isTrue(0, 0), 1);
            x.next();
            x.gas(1);
            due("15: one more than " + number, x.isTrue(0, 1), 1);
        }
    }

    private static void byAllThatIsToldNow() {
        MountainWatch x = new MountainWatch();
        x.gas(3);
        x.next();
        due("15: a LAW told later", x.law(2, 6, 3, 1), 0);
        due("15: is TRUE on a DAY gone by", x.isTrue(0, 0), 1);
        due("15: not TODAY", x.isTrue(0, 1), 0);
        x.change(0, 2, 4);
        due("15: by its NUMBER of now", x.isTrue(0, 0), 0);
        due("15: THE LEVEL does not go by DAYS gone by", x.next(), 0);
    }

    // ---- 16 rest

    private static void restBounds() {
        bounds("16: REST 1 to 30", 1, 30, n -> new MountainWatch().rest(n), 3);
        bounds("16: which it was", 1, 30, n -> {
            MountainWatch x = new MountainWatch();
            int was = x.rest(n);
            return was < 0 ? was : x.rest(7);
        }, n -> n);
    }

    private static void downAfterRest() {
        for (int rest : new int[] {1, 2, 3, 29, 30}) {
            MountainWatch x = new MountainWatch();
            x.rest(rest);
            x.word(2);
            for (int calm = 1; calm < rest; calm++) {
                due("16: calm for " + calm + " of " + rest, x.next(), 2);
                due("16: CALM", x.told(2), calm);
            }
            due("16: calm for " + rest, x.next(), 1);
            due("16: CALM is 0 at a change", x.told(2), 0);
            message("16", x, false, 2, rest - 1, 1, 21);
            days(x, rest - 1);
            due("16: it takes REST anew", x.told(1), 1);
            due("16: to 0", x.next(), 0);
        }
    }

    private static void downAfter3AtFirst() {
        MountainWatch x = new MountainWatch();
        x.word(1);
        int[] want = {1, 1, 0, 0, 0, 0, 0};
        for (int level : want) {
            due("16: REST is 3 at first", x.next(), level);
        }
        due("16: not below 0, and no MESSAGE of it", x.told(4), 2);
    }

    private static void refusedRestChangesNothing() {
        for (int n : new int[] {LEAST, -1, 0, 31, MOST}) {
            MountainWatch x = new MountainWatch();
            x.rest(2);
            x.rest(n);
            x.word(1);
            due("16: one calm DAY after rest(" + n + ")", x.next(), 1);
            due("16: two calm DAYS after rest(" + n + ")", x.next(), 0);
            due("16: which it was after rest(" + n + ")", x.rest(5), 2);
        }
    }

    private static void restChangedWhileCalm() {
        MountainWatch x = new MountainWatch();
        x.rest(30);
        x.word(3);
        days(x, 10);
        x.rest(1);
        due("16: CALM stays", x.told(2), 10);
        due("16: THE LEVEL stays till the DAY ends", x.told(1), 3);
        x.hold(3, 1);
        due("16: a DAY that is not calm", x.next(), 3);
        due("16: CALM is 0", x.told(2), 0);
        due("16: a calm one", x.next(), 2);
        x.rest(4);
        days(x, 3);
        due("16: a greater one takes longer", x.told(1), 2);
        due("16: the fourth", x.next(), 1);
    }

    // ---- 17 next

    private static void todayGoesTo999AtMost() {
        MountainWatch x = onDay(998);
        due("17: DAY 998", x.told(0), 998);
        x.law(3, 6, 1, 1);
        x.word(2);
        due("17: the last DAY comes", x.next(), 2);
        due("17: DAY 999", x.told(0), 999);
        x.gas(1);
        x.hold(4, 1);
        due("17: CALM", x.told(2), 1);
        for (int i = 0; i < 3; i++) {
            due("17: no DAY 1000", x.next(), STATE);
            int[] want = {999, 2, 1, 4, 1, 0, 4, 0, 1, 1, 0};
            for (int what = 0; what < want.length; what++) {
                due("17: told(" + what + ") after the refused call", x.told(what), want[what]);
            }
        }
        due("17: the GAS of it stays", x.gasOf(999), 1);
        due("17: there is no DAY 1000", x.gasOf(1000), UNKNOWN);
        due("20: a WORD still", x.word(0), 2);
        message("20: of the last DAY", x, false, 2, 999, 0, 22);
        due("21: a DRILL still", x.drill(0), 1);
        message("21: of the last DAY", x, true, 1, 999, 0, 23);
    }

    private static void wantedAboveTheLevel() {
        for (int from = 0; from <= 4; from++) {
            for (int wanted = 1; wanted <= 4; wanted++) {
                MountainWatch x = withLaw(wanted, 6, 1, 1);
                x.word(from);
                x.gas(1);
                due("17: from " + from + ", WANTED " + wanted, x.next(), Math.max(from, wanted));
                due("17: MESSAGES", x.told(4), wanted > from ? 2 : 1);
                due("17: CALM", x.told(2), wanted < from ? 1 : 0);
                if (wanted > from) {
                    message("17: raised", x, false, 2, 0, wanted, 0);
                }
            }
        }
    }

    private static void calmIsOfDaysOneBehindTheOther() {
        MountainWatch x = withLaw(2, 6, 1, 1);
        x.word(2);
        days(x, 2);
        due("17: two calm DAYS", x.told(2), 2);
        x.gas(1);
        due("17: WANTED is THE LEVEL", x.next(), 2);
        due("17: CALM is 0", x.told(2), 0);
        days(x, 2);
        due("17: CALM from the beginning", x.told(2), 2);
        due("17: THE LEVEL yet", x.told(1), 2);
        due("17: no MESSAGE yet", x.told(4), 1);
        due("17: the third", x.next(), 1);
    }

    private static void raisedWhileCalm() {
        MountainWatch x = withLaw(2, 6, 1, 1);
        x.word(1);
        days(x, 2);
        x.gas(1);
        due("17: raised ahead of REST", x.next(), 2);
        due("17: CALM is 0 at a change", x.told(2), 0);
        message("17", x, false, 2, 2, 2, 0);
    }

    private static void reasonIsTheLeastLaw() {
        MountainWatch x = new MountainWatch();
        x.law(2, 6, 1, 1);
        x.law(3, 6, 9, 1);
        x.law(1, 6, 1, 1);
        x.law(3, 6, 5, 1);
        x.law(3, 6, 5, 1);
        x.gas(5);
        x.hold(3, 1);
        x.next();
        message("17: not a lesser LEVEL, nor one that is not TRUE", x, false, 1, 0, 3, 3);
    }

    private static void reasonIsTheLastLaw() {
        MountainWatch x = new MountainWatch();
        for (int i = 0; i < 7; i++) {
            x.law(3, 6, 2, 1);
        }
        x.law(4, 6, 1, 1);
        x.gas(2);
        x.next();
        message("17: LAW 7", x, false, 1, 0, 4, 7);
    }

    private static void reasonIsTheHold() {
        MountainWatch x = withLaw(2, 6, 1, 1);
        x.gas(1);
        x.hold(3, 1);
        x.next();
        message("17: a HOLD above all LAWS that are TRUE", x, false, 1, 0, 3, 20);
        MountainWatch y = new MountainWatch();
        for (int i = 0; i < 8; i++) {
            y.law(4, 6, 1, 1);
        }
        y.hold(4, 1);
        y.next();
        message("17: a HOLD, where none of 8 LAWS is TRUE", y, false, 1, 0, 4, 20);
    }

    // ---- 18 hold

    private static void holdBounds() {
        bounds("18: LEVEL 1 to 4", 1, 4, n -> new MountainWatch().hold(n, 7), 7);
        bounds("18: DAYS 1 to 100", 1, 100, n -> new MountainWatch().hold(2, n), n -> n);
        bounds("18: from TODAY on", 1, 100, n -> onDay(5).hold(2, n), n -> 5 + n);
        due("18: beyond the last DAY", onDay(999).hold(2, 100), 1099);
    }

    private static void holdsSoManyDays() {
        for (int n : new int[] {1, 2, 99, 100}) {
            MountainWatch x = new MountainWatch();
            x.rest(1);
            due("18: the first DAY without it", x.hold(2, n), n);
            for (int day = 0; day < n; day++) {
                due("18: HOLD of DAY " + day + " of " + n, x.told(6), 2);
                due("18: WANTED on DAY " + day + " of " + n, x.told(3), 2);
                due("18: THE LEVEL then", x.next(), 2);
            }
            due("18: no HOLD any more", x.told(6), 0);
            due("18: not WANTED any more", x.told(3), 0);
            due("18: and let down", x.next(), 1);
        }
    }

    private static void newHoldTakesThePlace() {
        MountainWatch x = new MountainWatch();
        x.hold(4, 100);
        due("18: a lesser and shorter one", x.hold(1, 1), 1);
        due("18: of TODAY", x.told(6), 1);
        due("18: WANTED", x.next(), 1);
        due("18: the older one is gone", x.told(6), 0);
        x.hold(2, 1);
        due("18: a longer one", x.hold(3, 2), 3);
        x.next();
        due("18: on its second DAY", x.told(6), 3);
        x.next();
        due("18: over", x.told(6), 0);
    }

    private static void refusedHoldChangesNothing() {
        int[][] wrong = {{LEAST, 5}, {-1, 5}, {0, 5}, {5, 5}, {MOST, 5}, {3, LEAST}, {3, -1}, {3, 0}, {3, 101},
            {3, MOST}, {0, 0}, {5, 101}};
        for (int[] w : wrong) {
            String name = "18: after hold(" + w[0] + ", " + w[1] + ")";
            MountainWatch x = new MountainWatch();
            due(name + ", refused", x.hold(w[0], w[1]), OUTSIDE);
            due(name + ", none", x.told(6), 0);
            x.hold(2, 2);
            due(name + ", refused", x.hold(w[0], w[1]), OUTSIDE);
            due(name + ", its LEVEL", x.told(6), 2);
            x.next();
            due(name + ", its last DAY", x.told(6), 2);
            x.next();
            due(name + ", it ends", x.told(6), 0);
        }
    }

    // ---- 19 release

    private static void releaseOfNone() {
        MountainWatch x = new MountainWatch();
        due("19: there was none", x.release(), 0);
        x.hold(4, 100);
        due("19: its LEVEL", x.release(), 4);
        due("19: none any more", x.release(), 0);
        due("19: none of TODAY", x.told(6), 0);
        due("19: not WANTED", x.told(3), 0);
        due("19: nor at the end of the DAY", x.next(), 0);
        due("19: no MESSAGE of it", x.told(4), 0);
    }

    private static void releaseAtTheEnd() {
        MountainWatch x = new MountainWatch();
        x.hold(3, 2);
        x.next();
        due("19: on its last DAY", x.release(), 3);
        due("19: THE LEVEL stays till it has been calm", x.told(1), 3);
        x.hold(2, 1);
        x.next();
        due("19: it has ended by itself", x.release(), 0);
        due("19: a new one", x.hold(1, 1), 3);
        due("19: its LEVEL", x.release(), 1);
    }

    private static void releasedIsCalm() {
        MountainWatch x = new MountainWatch();
        x.rest(1);
        x.hold(2, 100);
        x.next();
        due("19: held", x.next(), 2);
        x.release();
        due("19: the DAY of the release is calm", x.next(), 1);
    }

    // ---- 20 word

    private static void wordBounds() {
        bounds("20: LEVEL 0 to 4", 0, 4, n -> new MountainWatch().word(n), 1);
        for (int from = 0; from <= 4; from++) {
            for (int to = 0; to <= 4; to++) {
                MountainWatch x = new MountainWatch();
                x.word(from);
                x.next();
                due("20: from " + from + " to " + to, x.word(to), 2);
                due("20: at once", x.told(1), to);
                due("20: CALM 0", x.told(2), 0);
                message("20", x, false, 2, 1, to, 22);
            }
        }
    }

    private static void refusedWordChangesNothing() {
        for (int level : REFUSED_LEVELS) {
            MountainWatch x = new MountainWatch();
            x.word(3);
            x.next();
            due("20: word(" + level + ")", x.word(level), OUTSIDE);
            due("20: THE LEVEL stays", x.told(1), 3);
            due("20: CALM stays", x.told(2), 1);
            due("20: no MESSAGE", x.told(4), 1);
            due("20: the next number is not lost", x.word(1), 2);
        }
    }

    private static void wordAgainstAHold() {
        MountainWatch x = new MountainWatch();
        x.hold(3, 2);
        x.word(0);
        due("20: the HOLD stays", x.told(6), 3);
        due("20: THE LEVEL is so at once", x.told(1), 0);
        due("20: WANTED goes on as ever", x.next(), 3);
        message("20", x, false, 2, 0, 3, 20);
    }

    // ---- 21 drill

    private static void drillBounds() {
        bounds("21: LEVEL 0 to 4", 0, 4, n -> new MountainWatch().drill(n), 1);
        for (int level = 0; level <= 4; level++) {
            MountainWatch x = onDay(1);
            x.drill(4 - level);
            due("21: numbers of their own", x.drill(level), 2);
            due("23: the latest DRILL", x.told(10), level);
            message("21", x, true, 2, 1, level, 23);
        }
    }

    private static void refusedDrillChangesNothing() {
        for (int level : REFUSED_LEVELS) {
            MountainWatch x = new MountainWatch();
            due("21: drill(" + level + ")", x.drill(level), OUTSIDE);
            due("21: no DRILL yet", x.told(10), 0);
            due("21: no MESSAGE", x.told(5), 0);
            x.drill(3);
            due("21: drill(" + level + ")", x.drill(level), OUTSIDE);
            due("21: the latest stays", x.told(10), 3);
            due("21: the next number is not lost", x.drill(1), 2);
        }
    }

    private static void drillChangesNothingElse() {
        MountainWatch x = new MountainWatch();
        x.word(2);
        x.next();
        x.hold(1, 5);
        x.drill(4);
        int[] want = {1, 2, 1, 1, 1, 1, 1, 0, 0, 1, 4};
        for (int what = 0; what < want.length; what++) {
            due("21: told(" + what + ") after a DRILL", x.told(what), want[what]);
        }
        message("21: the MESSAGE with its number", x, false, 1, 0, 2, 22);
        due("21: the next MESSAGE", x.word(2), 2);
        days(x, 2);
        due("21: the DRILL's LEVEL stays on other DAYS", x.told(10), 4);
    }

    // ---- 22 message

    private static void messageNumbers() {
        due("22: of none at all", new MountainWatch().message(false, 1, 0), UNKNOWN);
        due("22: of none at all, of DRILLS", new MountainWatch().message(true, 1, 0), UNKNOWN);
        for (boolean drills : new boolean[] {false, true}) {
            beyond("22: numbers 1 to 3", 1, 3, n -> withMessages(3, 3).message(drills, n, 0), UNKNOWN);
            beyond("22: UNKNOWN ahead of OUTSIDE", 1, 3, n -> withMessages(3, 3).message(drills, n, 3), UNKNOWN);
            beyond("22: what 0 to 2", 0, 2, n -> withMessages(3, 3).message(drills, 1, n), OUTSIDE);
            beyond("22: what 0 to 2", 0, 2, n -> withMessages(3, 3).message(drills, 3, n), OUTSIDE);
        }
        due("22: a number of the other sort alone", withMessages(3, 2).message(true, 3, 0), UNKNOWN);
        due("22: a number of the other sort alone", withMessages(2, 3).message(false, 3, 0), UNKNOWN);
        message("22: the first", withMessages(3, 3), false, 1, 0, 1, 22);
        message("22: the last", withMessages(3, 3), false, 3, 0, 3, 22);
        message("22: the first of DRILLS", withMessages(3, 3), true, 1, 0, 1, 23);
        message("22: the last of DRILLS", withMessages(3, 3), true, 3, 0, 3, 23);
    }

    /** The message with a number has the level that its number leaves when it is divided by 5. */
    private static MountainWatch withMessages(int words, int drills) {
        MountainWatch x = new MountainWatch();
        for (int i = 1; i <= Math.max(words, drills); i++) {
            if (i <= words) {
                x.word(i % 5);
            }
            if (i <= drills) {
                x.drill(i % 5);
            }
        }
        return x;
    }

    private static void messagesAre200AtMost() {
        int[][] shares = {{200, 0}, {199, 1}, {100, 100}, {1, 199}, {0, 200}, {120, 80}};
        for (int[] s : shares) {
            keptAndNumbered(s[0], s[1], false);
            keptAndNumbered(s[0], s[1], true);
        }
    }

    private static void keptAndNumbered(int words, int drills, boolean drill) {
        String name = "22: " + words + " WORDS, " + drills + " DRILLS, one more " + (drill ? "DRILL" : "WORD");
        MountainWatch x = withMessages(words, drills);
        for (int more = 1; more <= 3; more++) {
            int number = (drill ? drills : words) + more;
            due(name + " is numbered", drill ? x.drill(3) : x.word(3), number);
            due(name + " but not kept", x.message(drill, number, 0), UNKNOWN);
            due(name + " but not kept, ahead of OUTSIDE", x.message(drill, number, 3), UNKNOWN);
            due(name + ": numbers", x.told(drill ? 5 : 4), number);
        }
        due(name + ": the LEVEL is so", x.told(drill ? 10 : 1), 3);
        for (int number : new int[] {1, 2, words - 1, words}) {
            if (number >= 1 && number <= words) {
                message(name, x, false, number, 0, number % 5, 22);
            }
        }
        for (int number : new int[] {1, 2, drills - 1, drills}) {
            if (number >= 1 && number <= drills) {
                message(name, x, true, number, 0, number % 5, 23);
            }
        }
    }

    private static void the200thIsKept() {
        MountainWatch x = withMessages(199, 0);
        due("22: the 200th", x.drill(2), 1);
        message("22: is kept", x, true, 1, 0, 2, 23);
        MountainWatch y = withMessages(0, 199);
        due("22: the 200th", y.word(2), 1);
        message("22: is kept", y, false, 1, 0, 2, 22);
        MountainWatch z = withMessages(199, 0);
        z.hold(4, 1);
        z.word(0);
        message("22: the 200th by a WORD", z, false, 200, 0, 0, 22);
    }

    private static void changesOfTheLevelWhereNoneIsKept() {
        MountainWatch x = withMessages(200, 0);
        x.rest(1);
        x.hold(4, 1);
        due("22: raised all the same", x.next(), 4);
        due("22: it is numbered", x.told(4), 201);
        due("22: but not kept", x.message(false, 201, 0), UNKNOWN);
        due("22: let down all the same", x.next(), 3);
        due("22: CALM 0 at a change", x.told(2), 0);
        due("22: it is numbered", x.told(4), 202);
        due("22: the next number", x.word(0), 203);
        due("22: DRILLS have their own", x.drill(0), 1);
        message("22: the older ones stay", x, false, 200, 0, 0, 22);
    }

    // ---- 23 told

    private static void toldWhat() {
        beyond("23: what 0 to 10", 0, 10, n -> new MountainWatch().told(n), OUTSIDE);
        MountainWatch x = onDay(2);
        x.word(3);
        x.word(3);
        x.next();
        x.hold(4, 1);
        for (int i = 0; i < 5; i++) {
            x.shake(1);
        }
        for (int i = 0; i < 6; i++) {
            x.law(1, 6, 1, 1);
        }
        for (int i = 0; i < 6; i++) {
            x.node(0, 0, 100);
        }
        for (int i = 0; i < 8; i++) {
            x.drill(2);
        }
        int[] want = {3, 3, 1, 4, 2, 8, 4, 5, 6, 7, 2};
        for (int what = 0; what < want.length; what++) {
            due("23: told(" + what + ")", x.told(what), want[what]);
        }
    }

    private static void wantedAsOfNow() {
        MountainWatch x = withLaw(1, 6, 5, 1);
        due("23: nothing WANTED", x.told(3), 0);
        x.gas(5);
        due("23: WANTED as of now", x.told(3), 1);
        x.gas(4);
        due("23: not any more", x.told(3), 0);
        x.hold(2, 1);
        due("23: by the HOLD", x.told(3), 2);
        x.release();
        due("23: not any more", x.told(3), 0);
        x.gas(5);
        x.next();
        due("23: WANTED is of TODAY", x.told(3), 0);
    }

    public static void main(String[] args) {
        lawBounds();
        lawsAre8AtMost();
        refusedLawLeavesNoLaw();
        changeBounds();
        lastLawIsChangedAlone();
        refusedChangeChangesNothing();
        changeKeepsMeasureAndSpan();
        measureUnknown();
        measuresOfAnEmptyDay();
        spanOfDays();
        spanNotBelowDay0();
        mostShakesOfOneFamily();
        eightyOfOneFamily();
        tiltLessTilt();
        tiltBelowSpan();
        greatestTilts();
        greatestGas();
        measuresOfTheLastDay();
        isTrueUnknown();
        numberOrMore();
        byAllThatIsToldNow();
        restBounds();
        downAfterRest();
        downAfter3AtFirst();
        refusedRestChangesNothing();
        restChangedWhileCalm();
        todayGoesTo999AtMost();
        wantedAboveTheLevel();
        calmIsOfDaysOneBehindTheOther();
        raisedWhileCalm();
        reasonIsTheLeastLaw();
        reasonIsTheLastLaw();
        reasonIsTheHold();
        holdBounds();
        holdsSoManyDays();
        newHoldTakesThePlace();
        refusedHoldChangesNothing();
        releaseOfNone();
        releaseAtTheEnd();
        releasedIsCalm();
        wordBounds();
        refusedWordChangesNothing();
        wordAgainstAHold();
        drillBounds();
        refusedDrillChangesNothing();
        drillChangesNothingElse();
        messageNumbers();
        messagesAre200AtMost();
        the200thIsKept();
        changesOfTheLevelWhereNoneIsKept();
        toldWhat();
        wantedAsOfNow();
        CHECK.end();
    }
}

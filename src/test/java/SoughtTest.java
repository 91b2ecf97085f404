/** The edges of readings and of what is sought: bounds that touch, no way, the first and the last that is looked at. */
public final class SoughtTest {
    public static void main(String[] args) {
        gaugeAtFirst();
        rightAtItsEnds();
        rightOfNone();
        fitWithoutReadings();
        fitOfOne();
        fitThatTouches();
        fitFromTheFirstUpToTheLast();
        fitBroughtToTheFirstDay();
        fitBeyondInt();
        fitRefused();
        oddWithout();
        oddOfTwo();
        oddIsTheLeast();
        oddOnItsDays();
        oddOfBoundsThatTouch();
        oddAskedFirst();
        noPipesTold();
        pipeToldAndGone();
        spoonsOnTheFirstAndTheLastDay();
        spoonsOfOneAndOfEightDays();
        aimAtItsEnds();
        slackAtItsEnds();
        slackOnEachDay();
        slackIsOfTheFirstDay();
        leastLitres();
        leastLitresOfManyWays();
        oneDrawForMany();
        dearerWayAheadOfTheLeast();
        ofLikeOnes();
        moreThanKnown();
        moreThanKnownOfEachColumn();
        moreThanWhatTheStonesGive();
        drawnOfTheLatest();
        burstOfNothing();
        burstByWeight();
        wideAtFirst();
        burstByTurning();
        burstAtItsEnds();
        firstOf200();
        firstIsTheLeastRing();
        firstAtItsEnds();
        noCauses();
        spansThatTouch();
        tenCauses();
        sureAndMaybe();
        forgetAll();
        Check.end("SoughtTest");
    }

    private static void gaugeAtFirst() {
        Check.by("gauge: sun 0, drift 0, noise 1000 at first");
        LeaningTower x = new LeaningTower();
        x.warmth(0, 50);
        for (int gauge = 0; gauge < 4; gauge++) {
            Check.due("reading", x.reading(gauge, 399 - gauge, 77), gauge + 1);
            Check.due("right", x.right(gauge + 1), 77);
            Check.due("lower", x.fit(399 - gauge, 399 - gauge, false), 77 - 1000);
            Check.due("upper", x.fit(399 - gauge, 399 - gauge, true), 77 + 1000);
        }
    }

    private static void rightAtItsEnds() {
        Check.by("put right: less sun times warmth, less drift times the day");
        LeaningTower x = new LeaningTower();
        x.warmth(0, -20);
        x.warmth(399, 50);
        x.gauge(0, 100, 1000, 0);
        x.gauge(1, -100, -1000, 0);
        x.reading(0, 0, Check.BILLION);
        x.reading(0, 399, -Check.BILLION);
        x.reading(1, 0, -Check.BILLION);
        x.reading(1, 399, Check.BILLION);
        Check.due("sun 100, warmth -20, day 0", x.right(1), Check.BILLION + 2000);
        Check.due("sun 100, warmth 50, day 399", x.right(2), -Check.BILLION - 5000 - 399000);
        Check.due("sun -100, warmth -20, day 0", x.right(3), -Check.BILLION - 2000);
        Check.due("sun -100, warmth 50, day 399", x.right(4), Check.BILLION + 5000 + 399000);
        x.gauge(0, 0, 0, 0);
        Check.due("told anew", x.right(1), Check.BILLION);
        x.warmth(0, 0);
        Check.due("told anew", x.right(3), -Check.BILLION);
    }

    private static void rightOfNone() {
        Check.by("right: -2000000000 if it is none, or not known");
        LeaningTower x = new LeaningTower();
        x.lead(1, 0, 0, 0);
        x.pipe(0, 0, 1);
        x.frost(0, 0);
        x.mandate(0);
        x.reading(0, 0, 3);
        x.annul(5);
        for (int act = 1; act <= 6; act++) {
            Check.due("right " + act, x.right(act), Check.NO_LEAN);
        }
        x.as(5);
        Check.due("known", x.right(5), 3);
        x.as(4);
        Check.due("not known", x.right(5), Check.NO_LEAN);
        for (int act : new int[] {0, -1, 7, 200, 201, Check.LEAST, Check.GREATEST}) {
            Check.due("none such " + act, x.right(act), Check.NO_LEAN);
        }
    }

    private static void fitWithoutReadings() {
        Check.by("fit: -2000000001 without readings");
        LeaningTower x = new LeaningTower();
        Check.due("none at all", x.fit(0, 399, false), Check.NO_READINGS);
        Check.due("none at all", x.fit(0, 399, true), Check.NO_READINGS);
        x.reading(0, 5, 0);
        Check.due("behind them", x.fit(0, 4, true), Check.NO_READINGS);
        Check.due("ahead of them", x.fit(6, 399, true), Check.NO_READINGS);
        x.as(0);
        Check.due("not known", x.fit(5, 5, true), Check.NO_READINGS);
        x.as(-1);
        x.annul(1);
        Check.due("void", x.fit(5, 5, true), Check.NO_READINGS);
    }

    private static void fitOfOne() {
        Check.by("noise (0 .. 1000000): the lean lies within it");
        LeaningTower x = new LeaningTower();
        x.reading(2, 0, -7);
        x.gauge(2, 0, 0, 0);
        Check.due("noise 0, lower", x.fit(0, 0, false), -7);
        Check.due("noise 0, upper", x.fit(0, 0, true), -7);
        x.gauge(2, 0, 0, 1000000);
        Check.due("noise 1000000, lower", x.fit(0, 0, false), -1000007);
        Check.due("noise 1000000, upper", x.fit(0, 0, true), 999993);
    }

    private static void fitThatTouches() {
        Check.by("fit: -2000000002 if there are no bounds");
        LeaningTower x = new LeaningTower();
        x.gauge(0, 0, 0, 10);
        x.gauge(1, 0, 0, 5);
        x.reading(0, 3, 100);
        x.reading(1, 3, 115);
        Check.due("they touch, lower", x.fit(3, 3, false), 110);
        Check.due("they touch, upper", x.fit(3, 3, true), 110);
        x.reading(1, 4, 116);
        Check.due("they don't, lower", x.fit(3, 4, false), Check.NO_BOUNDS);
        Check.due("they don't, upper", x.fit(3, 4, true), Check.NO_BOUNDS);
        Check.due("the last alone", x.fit(4, 4, false), 111);
        LeaningTower y = new LeaningTower();
        y.gauge(0, 0, 0, 0);
        y.reading(0, 3, 100);
        y.reading(0, 3, 100);
        Check.due("of noise 0, alike", y.fit(3, 3, true), 100);
        y.reading(0, 3, 101);
        Check.due("of noise 0, not alike", y.fit(3, 3, true), Check.NO_BOUNDS);
    }

    private static void fitFromTheFirstUpToTheLast() {
        Check.by("fit: all readings known of these days");
        LeaningTower x = new LeaningTower();
        x.gauge(0, 0, 0, 100);
        for (int day : new int[] {0, 1, 398, 399}) {
            x.reading(0, day, day);
        }
        long[][] rows = {{0, 0, -100, 100}, {0, 1, -99, 100}, {1, 1, -99, 101}, {1, 397, -99, 101},
            {2, 398, 298, 498}, {398, 399, 299, 498}, {399, 399, 299, 499}, {2, 399, 299, 498}};
        for (long[] row : rows) {
            Check.due("lower " + row[0] + " " + row[1], x.fit((int) row[0], (int) row[1], false), row[2]);
            Check.due("upper " + row[0] + " " + row[1], x.fit((int) row[0], (int) row[1], true), row[3]);
        }
        Check.due("0 .. 399", x.fit(0, 399, true), Check.NO_BOUNDS);
        Check.due("1 .. 398", x.fit(1, 398, true), Check.NO_BOUNDS);
    }

    private static void fitBroughtToTheFirstDay() {
        Check.by("brought to the first day: less by what lean is more ahead of its day than ahead of the first");
        LeaningTower x = new LeaningTower();
        x.gauge(0, 0, 0, 0);
        x.pipe(3, 8, 136);
        x.pipe(4, 7, 272);
        x.reading(0, 3, 0);
        x.reading(0, 4, 5000);
        x.reading(0, 5, -5000);
        Check.due("day 3", x.fit(3, 3, true), 0);
        Check.due("day 4 to day 3", x.fit(3, 4, true), 0);
        Check.due("day 4 to day 4", x.fit(4, 4, true), 5000);
        Check.due("day 5 to day 4", x.fit(4, 5, true), 5000);
        Check.due("day 5 to day 5", x.fit(5, 5, true), -5000);
        Check.due("all to day 0", x.fit(0, 399, true), 0);
        x.annul(1);
        Check.due("by the works known", x.fit(0, 4, true), Check.NO_BOUNDS);
        Check.due("as known ahead of that", x.as(5), true);
        Check.due("by the works known", x.fit(0, 4, true), 0);
    }

    /** From day 40 on lean goes from one of its ends to the other. */
    private static LeaningTower swinging(int arm) {
        LeaningTower x = new LeaningTower();
        x.water(0, 100);
        for (int column = 0; column < 16; column++) {
            x.stiff(column, 1);
        }
        for (int i = 0; i < 95; i++) {
            x.lead(1000, arm, 0, 39);
            x.lead(1000, -arm, 40, 399);
        }
        Check.due("lean 40", x.lean(40), arm > 0 ? Check.BILLION : -Check.BILLION);
        Check.due("lean 399", x.lean(399), arm > 0 ? -Check.BILLION : Check.BILLION);
        return x;
    }

    private static void fitBeyondInt() {
        Check.by("fit: bounds that no int holds");
        LeaningTower x = swinging(-20000);
        x.gauge(0, 0, 1000, 1000000);
        x.reading(0, 399, -Check.BILLION);
        Check.due("lower", x.fit(40, 399, false), -1000000000L - 399000 - 2000000000L - 1000000);
        Check.due("upper", x.fit(40, 399, true), -1000000000L - 399000 - 2000000000L + 1000000);
        LeaningTower y = swinging(20000);
        y.gauge(0, 0, -1000, 1000000);
        y.reading(0, 399, Check.BILLION);
        Check.due("lower", y.fit(40, 399, false), 1000000000L + 399000 + 2000000000L - 1000000);
        Check.due("upper", y.fit(40, 399, true), 1000000000L + 399000 + 2000000000L + 1000000);
        y.reading(0, 40, Check.BILLION);
        Check.due("no bounds", y.fit(40, 399, true), Check.NO_BOUNDS);
        Check.due("odd", y.odd(40, 399), 191);
    }

    private static void fitRefused() {
        Check.by("fit: -2000000000 if the days (0 .. 399, not in wrong order) can't be");
        LeaningTower x = new LeaningTower();
        x.reading(0, 0, 5);
        x.reading(0, 399, 5);
        int[][] refused = {{-1, 0}, {0, 400}, {1, 0}, {399, 398}, {400, 400}, {-1, -1}, {Check.LEAST, 399},
            {0, Check.GREATEST}, {0, Check.LEAST}, {Check.GREATEST, Check.GREATEST}};
        for (int[] days : refused) {
            Check.due("fit", x.fit(days[0], days[1], false), -2000000000L);
            Check.due("fit", x.fit(days[0], days[1], true), -2000000000L);
            Check.due("odd", x.odd(days[0], days[1]), Check.NONE);
        }
        Check.due("day 0", x.fit(0, 0, true), 1005);
        Check.due("day 399", x.fit(399, 399, true), 1005);
        Check.due("0 .. 399", x.fit(0, 399, true), 1005);
    }

    private static void oddWithout() {
        Check.by("odd: NONE if there are bounds (or no readings)");
        LeaningTower x = new LeaningTower();
        Check.due("no readings", x.odd(0, 399), Check.NONE);
        x.gauge(0, 0, 0, 10);
        x.reading(0, 5, 0);
        Check.due("one", x.odd(5, 5), Check.NONE);
        x.reading(0, 5, 20);
        Check.due("two that touch", x.odd(5, 5), Check.NONE);
        x.reading(0, 5, 10);
        Check.due("three that fit", x.odd(5, 5), Check.NONE);
    }

    private static void oddOfTwo() {
        Check.by("odd: the least act of a reading without which there are");
        LeaningTower x = new LeaningTower();
        x.gauge(0, 0, 0, 10);
        x.pipe(399, 0, 1);
        x.reading(0, 5, 21);
        x.reading(0, 5, 0);
        Check.due("of two the first", x.odd(5, 5), 2);
        x.reading(0, 5, 21);
        Check.due("the lowest", x.odd(5, 5), 3);
        x.reading(0, 5, 42);
        Check.due("too many", x.odd(5, 5), Check.NONE);
        x.annul(3);
        Check.due("the highest", x.odd(5, 5), 5);
        x.annul(5);
        Check.due("bounds", x.odd(5, 5), Check.NONE);
    }

    private static void oddIsTheLeast() {
        Check.by("odd: there is none such, or it lies between");
        LeaningTower x = new LeaningTower();
        x.gauge(0, 0, 0, 10);
        x.reading(0, 5, 0);
        x.reading(0, 5, 0);
        x.reading(0, 5, 21);
        x.reading(0, 5, 21);
        Check.due("two against two", x.odd(5, 5), Check.NONE);
        x.annul(4);
        Check.due("two against one", x.odd(5, 5), 3);
        LeaningTower y = new LeaningTower();
        y.gauge(0, 0, 0, 10);
        y.gauge(1, 0, 0, 1);
        y.reading(0, 5, 0);
        y.reading(1, 5, 50);
        y.reading(0, 5, 12);
        Check.due("the second has both bounds", y.odd(5, 5), 2);
        LeaningTower z = new LeaningTower();
        z.gauge(0, 0, 0, 10);
        z.reading(0, 5, 0);
        z.reading(0, 5, 21);
        z.reading(0, 5, 42);
        Check.due("three, each against each", z.odd(5, 5), Check.NONE);
        LeaningTower w = new LeaningTower();
        w.gauge(0, 0, 0, 10);
        w.reading(0, 5, 15);
        w.reading(0, 5, 0);
        w.reading(0, 5, 30);
        Check.due("without the first the others don't touch; without the second they do", w.odd(5, 5), 2);
    }

    private static void oddOnItsDays() {
        Check.by("odd: from a day up to a day");
        LeaningTower x = new LeaningTower();
        x.gauge(0, 0, 0, 10);
        x.reading(0, 0, 0);
        x.reading(0, 399, 21);
        Check.due("both", x.odd(0, 399), 1);
        Check.due("the first alone", x.odd(0, 398), Check.NONE);
        Check.due("the last alone", x.odd(1, 399), Check.NONE);
        Check.due("neither", x.odd(1, 398), Check.NONE);
        x.pipe(398, 8, 1);
        // Lean is 36 more on day 399: 21 is -15 there.
        Check.due("brought to the first day", x.fit(0, 399, true), -5);
        Check.due("so they fit", x.odd(0, 399), Check.NONE);
    }

    private static void oddOfBoundsThatTouch() {
        Check.by("odd: a reading without which there are bounds, if they touch alone");
        LeaningTower x = new LeaningTower();
        x.gauge(0, 0, 0, 10);
        x.reading(0, 5, 0);
        x.reading(0, 5, 20);
        x.reading(0, 5, 100);
        Check.due("the others touch", x.odd(5, 5), 3);
        x.reading(0, 5, 19);
        Check.due("they touch still", x.odd(5, 5), 3);
        x.reading(0, 5, 21);
        Check.due("they don't", x.odd(5, 5), Check.NONE);
    }

    private static void oddAskedFirst() {
        Check.by("odd: by what lean, by the works known, is more, whatever was asked ahead of it");
        LeaningTower x = new LeaningTower();
        x.gauge(0, 0, 0, 10);
        x.pipe(4, 8, 136);
        x.reading(0, 4, 0);
        x.reading(0, 5, 5000);
        x.reading(0, 5, 5030);
        Check.due("the last", x.odd(4, 5), 4);
        LeaningTower y = new LeaningTower();
        y.gauge(0, 0, 0, 10);
        y.pipe(4, 8, 136);
        y.reading(0, 4, 0);
        y.reading(0, 5, 5000);
        y.reading(0, 5, 0);
        Check.due("the one that did not move", y.odd(4, 5), 4);
        y.reading(0, 4, -5000);
        Check.due("none such", y.odd(4, 5), Check.NONE);
    }

    private static void noPipesTold() {
        Check.by("spoons: none or one of up to three pipes told");
        LeaningTower x = new LeaningTower();
        Check.due("no need of any", x.spoons(0, 8, 0, 0), 0);
        for (int i = 0; i < 8; i++) {
            Check.due("drawn " + i, x.drawn(i), -2);
        }
        Check.due("drawn 8", x.drawn(8), Check.NONE);
        Check.due("no way", x.spoons(0, 8, -1, 0), Check.NONE);
        for (int k = 0; k < 3; k++) {
            LeaningTower y = new LeaningTower();
            Check.due("spoon", y.spoon(k, 7, 1), true);
            Check.due("by the one told", y.spoons(0, 1, -37, 0), 1);
            Check.due("by the one told", y.drawn(0), k);
            Check.due("it gives no more", y.spoons(0, 1, -38, 0), Check.NONE);
        }
    }

    private static void pipeToldAndGone() {
        Check.by("spoon: litres (0: none any more)");
        LeaningTower x = new LeaningTower();
        Check.due("0 of a column that can't be", x.spoon(0, 16, 0), false);
        Check.due("0 of a pipe that can't be", x.spoon(3, 0, 0), false);
        Check.due("1", x.spoon(0, 0, 1), true);
        Check.due("a way", x.spoons(0, 1, -1, 0), 1);
        Check.due("0", x.spoon(0, 0, 0), true);
        Check.due("none any more", x.spoons(0, 1, -1, 0), Check.NONE);
        Check.due("1000", x.spoon(0, 0, 1000), true);
        Check.due("a way", x.spoons(0, 1, -551471, 0), 1000);
        Check.due("no further", x.spoons(0, 1, -551472, 0), Check.NONE);
        Check.due("of another column", x.spoon(0, 15, 1000), true);
        Check.due("it leans to the south", x.spoons(0, 1, -1, Check.BILLION), Check.NONE);
        Check.due("refused", x.spoon(0, 0, 1001), false);
        Check.due("and still to the south", x.spoons(0, 1, -1, Check.BILLION), Check.NONE);
    }

    private static void spoonsOnTheFirstAndTheLastDay() {
        Check.by("spoons: the last day is 399 at most");
        LeaningTower x = new LeaningTower();
        x.spoon(1, 0, 10);
        int[][] taken = {{0, 1}, {0, 8}, {392, 8}, {393, 7}, {398, 2}, {399, 1}};
        for (int[] days : taken) {
            Check.due("day " + days[0] + " n " + days[1], x.spoons(days[0], days[1], -1, 0), 10);
            Check.due("none first, if it may", x.drawn(0), days[1] == 1 ? 1 : -2);
            Check.due("the last day", x.drawn(days[1] - 1), 1);
            Check.due("none behind it", x.drawn(days[1]), Check.NONE);
        }
        int[][] refused = {{-1, 1}, {393, 8}, {399, 2}, {400, 1}, {0, 0}, {0, 9}, {0, -1}, {Check.GREATEST, 1},
            {Check.GREATEST, 8}, {Check.LEAST, 8}, {0, Check.LEAST}, {0, Check.GREATEST}, {399, Check.GREATEST}};
        for (int[] days : refused) {
            Check.due("day " + days[0] + " n " + days[1], x.spoons(days[0], days[1], 0, 0), Check.NONE);
        }
    }

    private static void spoonsOfOneAndOfEightDays() {
        Check.by("spoons: n days (1 .. 8)");
        LeaningTower x = new LeaningTower();
        x.spoon(0, 0, 1000);
        for (int n = 1; n <= 8; n++) {
            int reached = (int) Math.floorDiv(-1000L * 15 * 50000 * n, 1360L);
            Check.due("all of " + n, x.spoons(0, n, reached, 0), 1000 * n);
            for (int i = 0; i < n; i++) {
                Check.due("drawn", x.drawn(i), 0);
            }
            Check.due("drawn behind them", x.drawn(n), Check.NONE);
            Check.due("no more of " + n, x.spoons(0, n, reached - 1, 0), Check.NONE);
        }
    }

    private static void aimAtItsEnds() {
        Check.by("spoons: so that lean ahead of the day behind them is not above an aim");
        LeaningTower x = new LeaningTower();
        x.spoon(0, 7, 1);
        Check.due("it is the aim", x.spoons(0, 3, 0, 0), 0);
        Check.due("one above it", x.spoons(0, 3, -1, 0), 1);
        Check.due("-37 is the aim", x.spoons(0, 3, -37, 0), 1);
        Check.due("-37 is above -38", x.spoons(0, 3, -38, 0), 2);
        Check.due("three of 50", x.spoons(0, 3, -111, 0), 3);
        Check.due("no way", x.spoons(0, 3, -112, 0), Check.NONE);
        Check.due("the greatest int", x.spoons(0, 3, Check.GREATEST, 0), 0);
        Check.due("the least int", x.spoons(0, 3, Check.LEAST, 0), Check.NONE);
        LeaningTower y = new LeaningTower();
        y.pipe(2, 7, 1);
        Check.due("the day behind them counts", y.spoons(0, 3, -37, 0), 0);
        Check.due("the day ahead of it does not", y.spoons(0, 2, -37, 0), Check.NONE);
    }

    private static void slackAtItsEnds() {
        Check.by("spoons: slack 0 .. 10 to the 9");
        LeaningTower x = new LeaningTower();
        Check.due("0", x.spoons(0, 1, 0, 0), 0);
        Check.due("-1", x.spoons(0, 1, 0, -1), Check.NONE);
        Check.due("10 to the 9", x.spoons(0, 1, 0, 1000000000), 0);
        Check.due("above", x.spoons(0, 1, 0, 1000000001), Check.NONE);
        Check.due("the least int", x.spoons(0, 1, 0, Check.LEAST), Check.NONE);
        Check.due("the greatest int", x.spoons(0, 1, 0, Check.GREATEST), Check.NONE);
        LeaningTower y = swinging(20000);
        Check.due("lean and slack at their ends", y.spoons(40, 1, Check.BILLION, Check.BILLION), 0);
        LeaningTower z = swinging(-20000);
        Check.due("at the other", z.spoons(40, 1, -Check.BILLION, 0), 0);
        Check.due("day 0 is above it", z.above(-Check.BILLION), 0);
    }

    private static void slackOnEachDay() {
        Check.by("spoons: lean ahead of none of the days behind the first (up to that one) is above");
        for (int pulled = 0; pulled < 3; pulled++) {
            LeaningTower x = new LeaningTower();
            x.pipe(pulled, 8, 136);
            x.pipe(pulled + 1, 7, 136);
            // Lean is 5000 ahead of one day alone.
            for (int n = 1; n <= 4; n++) {
                boolean over = n > pulled;
                Check.due("slack 5000", x.spoons(0, n, Check.BILLION, 5000), 0);
                Check.due("slack 4999", x.spoons(0, n, Check.BILLION, 4999), over ? Check.NONE : 0);
            }
            x.spoon(2, 7, 1);
            Check.due("a litre ahead of it", x.spoons(0, 4, Check.BILLION, 4999), 1);
            for (int i = 0; i < 4; i++) {
                Check.due("on the last day that helps", x.drawn(i), i == pulled ? 2 : -2);
            }
            Check.due("a litre gives no more", x.spoons(0, 4, Check.BILLION, 4963), 1);
            Check.due("so there must be two", x.spoons(0, 4, Check.BILLION, 4962), pulled == 0 ? Check.NONE : 2);
        }
    }

    private static void slackIsOfTheFirstDay() {
        Check.by("spoons: above lean ahead of the first and slack");
        LeaningTower x = new LeaningTower();
        x.pipe(0, 8, 136);
        x.pipe(1, 8, 136);
        x.pipe(2, 7, 272);
        Check.due("from day 0", x.spoons(0, 2, Check.BILLION, 10000), 0);
        Check.due("from day 0", x.spoons(0, 2, Check.BILLION, 9999), Check.NONE);
        Check.due("from day 1", x.spoons(1, 1, Check.BILLION, 5000), 0);
        Check.due("from day 1", x.spoons(1, 1, Check.BILLION, 4999), Check.NONE);
        Check.due("from day 2, which is not held itself", x.spoons(2, 1, 0, 0), 0);
        Check.due("from day 3", x.spoons(3, 8, 0, 0), 0);
    }

    private static void leastLitres() {
        Check.by("spoons: the least litres in all");
        LeaningTower x = new LeaningTower();
        x.spoon(0, 0, 10);
        x.spoon(1, 7, 149);
        Check.due("10 of column 0", x.spoons(0, 1, -5514, 0), 10);
        Check.due("10 of column 0", x.spoons(0, 1, -5515, 0), 10);
        Check.due("149 of column 7 are less", x.spoons(0, 1, -5516, 0), Check.NONE);
        x.spoon(1, 7, 150);
        Check.due("150 of column 7 are as much", x.spoons(0, 1, -5515, 0), 10);
        x.spoon(1, 7, 151);
        Check.due("151 are more", x.spoons(0, 1, -5516, 0), 151);
        x.spoon(2, 0, 11);
        Check.due("11 are enough", x.spoons(0, 1, -5516, 0), 11);
        Check.due("two of 10", x.spoons(0, 2, -11030, 0), 20);
        Check.due("10 and 11", x.spoons(0, 2, -11031, 0), 21);
        Check.due("10 and 11, the lesser pipe first", x.drawn(0), 0);
        Check.due("10 and 11, the lesser pipe first", x.drawn(1), 2);
    }

    /** What is drawn on the first day must hold against a pipe known; 5 litres do, but miss the aim, and 6 reach it. */
    private static void leastLitresOfManyWays() {
        Check.by("spoons: the least litres of all ways");
        int[][] pairs = {{0, 1}, {0, 2}, {1, 2}, {1, 0}, {2, 0}, {2, 1}};
        for (int[] pair : pairs) {
            LeaningTower x = new LeaningTower();
            x.pipe(0, 15, 5);
            x.spoon(pair[0], 0, 5);
            x.spoon(pair[1], 0, 6);
            for (int n = 1; n <= 8; n++) {
                Check.due("6 at once", x.spoons(0, n, -1, 0), 6);
                for (int i = 0; i < n; i++) {
                    Check.due("drawn", x.drawn(i), i == 0 ? pair[1] : -2);
                }
            }
            for (int n = 2; n <= 8; n++) {
                Check.due("5 and 5", x.spoons(0, n, -2758, 0), 10);
                Check.due("5 at once", x.drawn(0), pair[0]);
                Check.due("and 5 as late as may be", x.drawn(n - 1), pair[0]);
                Check.due("5 and 6", x.spoons(0, n, -2759, 0), 11);
                Check.due("the lesser pipe at once", x.drawn(0), Math.min(pair[0], pair[1]));
                Check.due("the other as late as may be", x.drawn(n - 1), Math.max(pair[0], pair[1]));
            }
        }
    }

    /** Each day pulls to the south; so many draws of 4 litres hold it, and one, made at once, of less than all these. */
    private static void oneDrawForMany() {
        Check.by("spoons: the least litres, be they drawn at once or one behind the other");
        int[][] pairs = {{0, 1}, {0, 2}, {1, 2}, {1, 0}, {2, 0}, {2, 1}};
        for (int[] pair : pairs) {
            for (int draws = 2; draws <= 7; draws++) {
                LeaningTower x = new LeaningTower();
                for (int day = 0; day < draws; day++) {
                    x.pipe(day, 8, day == 0 ? 1 : 4);
                }
                x.spoon(pair[0], 7, 4);
                x.spoon(pair[1], 7, 4 * draws - 2);
                for (int n = draws; n <= 8; n++) {
                    Check.due("one of " + draws + " in " + n, x.spoons(0, n, -37, 0), 4 * draws - 2);
                    Check.due("at once", x.drawn(0), pair[1]);
                    Check.due("none behind it", x.drawn(1), -2);
                    Check.due("none behind it", x.drawn(n - 1), -2);
                    Check.due("all of 4 for a little more", x.spoons(0, n, -38, 0), 4 * draws);
                    Check.due("all of 4 for a little more", x.drawn(draws - 1), pair[0]);
                }
            }
        }
    }

    /** A little and then much hold what the second day pulls; but much at once holds it, too. */
    private static void dearerWayAheadOfTheLeast() {
        Check.by("spoons: the least litres, though a dearer way is told ahead of it by its pipes");
        int[][] pairs = {{0, 1}, {0, 2}, {1, 2}, {1, 0}, {2, 0}, {2, 1}};
        for (int[] pair : pairs) {
            LeaningTower x = new LeaningTower();
            x.pipe(0, 8, 1);
            x.pipe(1, 8, 3);
            x.spoon(pair[0], 7, 1);
            x.spoon(pair[1], 7, 4);
            for (int n = 2; n <= 8; n++) {
                Check.due("much at once", x.spoons(0, n, 0, 0), 4);
                Check.due("much at once", x.drawn(0), pair[1]);
                Check.due("none behind it", x.drawn(1), -2);
                Check.due("both for a little more", x.spoons(0, n, -37, 0), 5);
            }
        }
    }

    private static void ofLikeOnes() {
        Check.by("spoons: of like ones the first in which two differ is none, else the lesser pipe");
        LeaningTower x = new LeaningTower();
        for (int k = 0; k < 3; k++) {
            x.spoon(k, 7, 1);
        }
        for (int draws = 0; draws <= 4; draws++) {
            Check.due("spoons", x.spoons(0, 4, Math.floorDiv(-50000 * draws, 1360), 0), draws);
            for (int i = 0; i < 4; i++) {
                Check.due("none first, then the least pipe", x.drawn(i), i < 4 - draws ? -2 : 0);
            }
        }
        x.spoon(0, 7, 2);
        Check.due("2 or 1 and 1", x.spoons(0, 2, -74, 0), 2);
        Check.due("none first", x.drawn(0), -2);
        Check.due("then 2 at once", x.drawn(1), 0);
        Check.due("2 and 1", x.spoons(0, 2, -111, 0), 3);
        Check.due("the lesser pipe", x.drawn(0), 0);
        Check.due("the lesser of like pipes", x.drawn(1), 1);
    }

    private static void moreThanKnown() {
        Check.by("spoons: more than what is known");
        LeaningTower x = new LeaningTower();
        x.spoon(0, 7, 1);
        Check.due("ahead of the pipe known", x.spoons(3, 1, -74, 0), Check.NONE);
        Check.due("pipe", x.pipe(3, 7, 1), 1);
        Check.due("on the day of the pipe known", x.spoons(3, 1, -74, 0), 1);
        Check.due("its own litres alone count", x.spoons(3, 1, -37, 0), 0);
        Check.due("no act is written", x.all(0), 1);
        Check.due("nothing is settled by it", x.lean(4), -37);
        x.as(0);
        Check.due("not known", x.spoons(3, 1, -74, 0), Check.NONE);
        Check.due("not known", x.spoons(3, 1, -37, 0), 1);
        LeaningTower y = new LeaningTower();
        y.frost(3, 8);
        y.spoon(0, 7, 40);
        Check.due("frost", y.spoons(3, 1, -1471, 0), 0);
        Check.due("frost and 40 litres", y.spoons(3, 1, -2942, 0), 40);
        Check.due("the thaw of the day behind", y.spoons(4, 1, 735, Check.BILLION), 0);
        Check.due("the thaw and 40 litres", y.spoons(4, 1, 734, Check.BILLION), 40);
        Check.due("it goes over, were it with 40 litres", y.spoons(4, 1, Check.BILLION, 0), Check.NONE);
        Check.due("a mandate does not hinder", Check.mandate(y, "stop when all;", 0), 2);
        Check.due("frost and 40 litres", y.spoons(3, 1, -2942, 0), 40);
    }

    private static void moreThanKnownOfEachColumn() {
        Check.by("spoons: more than what is known, of each column");
        for (int column = 0; column < 16; column++) {
            LeaningTower x = new LeaningTower();
            x.spoon(0, 7, 1);
            x.pipe(3, column, 100);
            int lean = Math.floorDiv(1000 * 5000 * (2 * column - 15), 1360);
            Check.due("column " + column, x.spoons(3, 1, lean, Check.BILLION), 0);
            Check.due("column " + column, x.spoons(3, 1, lean - 1, Check.BILLION), 1);
            Check.due("of no other day", x.spoons(2, 1, -1, Check.BILLION), 1);
            Check.due("of no other day", x.spoons(4, 1, lean, Check.BILLION), 0);
        }
    }

    private static void moreThanWhatTheStonesGive() {
        Check.by("spoons: so that lean is not above an aim, by all that makes it");
        LeaningTower x = new LeaningTower();
        for (int ring = 0; ring < 8; ring++) {
            x.ring(ring, 4000, 20 * (ring % 5), 60 * ring);
        }
        x.lead(500, -900, 11, 12);
        x.frost(10, 12);
        x.water(12, 90);
        for (int n = 1; n <= 8; n++) {
            int lean = x.lean(10 + n);
            int greatest = x.lean(10);
            for (int day = 11; day <= 10 + n; day++) {
                greatest = Math.max(greatest, x.lean(day));
            }
            Check.due("the aim", x.spoons(10, n, lean, Check.BILLION), 0);
            Check.due("one above it", x.spoons(10, n, lean - 1, Check.BILLION), Check.NONE);
            Check.due("the slack", x.spoons(10, n, Check.BILLION, greatest - x.lean(10)), 0);
            Check.due("one less", x.spoons(10, n, Check.BILLION, greatest - x.lean(10) - 1), Check.NONE);
        }
    }

    private static void drawnOfTheLatest() {
        Check.by("drawn: of the latest spoons() that told litres");
        LeaningTower x = new LeaningTower();
        for (int i : new int[] {-1, 0, 1, 7, 8, Check.LEAST, Check.GREATEST}) {
            Check.due("ahead of any " + i, x.drawn(i), Check.NONE);
        }
        Check.due("no way", x.spoons(0, 2, -1, 0), Check.NONE);
        Check.due("none of it", x.drawn(0), Check.NONE);
        x.spoon(1, 7, 1);
        Check.due("eight days", x.spoons(0, 8, -37 * 8 + 1, 0), 8);
        Check.due("the last", x.drawn(7), 1);
        Check.due("none such", x.drawn(8), Check.NONE);
        Check.due("none such", x.drawn(-1), Check.NONE);
        Check.due("no way", x.spoons(0, 2, -999, 0), Check.NONE);
        Check.due("refused", x.spoons(0, 9, -1, 0), Check.NONE);
        x.spoon(1, 7, 0);
        Check.due("still the eight", x.drawn(7), 1);
        Check.due("two days of 0 litres", x.spoons(0, 2, 0, 0), 0);
        Check.due("none drawn", x.drawn(0), -2);
        Check.due("none drawn", x.drawn(1), -2);
        Check.due("none such", x.drawn(2), Check.NONE);
    }

    private static void burstOfNothing() {
        Check.by("it bursts, if W times 1000 and floor(M / WIDE) are above bears: without tons it does not");
        LeaningTower x = new LeaningTower();
        for (int ring = 0; ring < 8; ring++) {
            x.stone(ring, 1, 0);
            x.ring(ring, 0, 100, 500);
            Check.due("0 is not above 0", x.bursts(ring, 1000000000), 0);
        }
        Check.due("first", x.first(true, 0, 10000000), Check.NONE);
        Check.due("first", x.first(false, 0, 10000000), Check.NONE);
        x.ring(7, 1, 0, 0);
        for (int ring = 0; ring < 8; ring++) {
            Check.due("1000 is above 0", x.bursts(ring, 0), 1);
        }
    }

    private static void burstByWeight() {
        Check.by("W is the tons of it and of all above");
        LeaningTower x = new LeaningTower();
        for (int ring = 0; ring < 8; ring++) {
            x.ring(ring, 1 + ring, 0, 0);
        }
        int weight = 0;
        for (int ring = 7; ring >= 0; ring--) {
            weight += 1 + ring;
            x.stone(ring, 100, 1000 * weight);
            Check.due("not above " + weight, x.bursts(ring, 0), 0);
            x.stone(ring, 100, 1000 * weight - 1);
            Check.due("above one less", x.bursts(ring, 0), 1);
        }
        LeaningTower y = new LeaningTower();
        y.ring(0, 1000, 0, 0);
        Check.due("1000000 at first", y.bursts(0, 0), 0);
        y.ring(0, 1001, 0, 0);
        Check.due("1000000 at first", y.bursts(0, 0), 1);
        y.stone(0, 100, 1000000);
        Check.due("1000000 at most", y.bursts(0, 0), 1);
    }

    private static void wideAtFirst() {
        Check.by("wide (1 .. 100; 10 at first), bears (0 .. 1000000; 1000000)");
        for (int ring = 0; ring < 7; ring++) {
            LeaningTower x = new LeaningTower();
            x.ring(7, 952, 0, 500);
            Check.due("952 tons: 47600 at 500", x.bursts(ring, 0), 0);
            x.ring(7, 953, 0, 493);
            Check.due("953 tons: 46982 at 493", x.bursts(ring, 0), 0);
            x.ring(7, 953, 0, 494);
            Check.due("953 tons: 47078 at 494", x.bursts(ring, 0), 1);
            x.ring(7, 950, 0, 500);
            Check.due("950 tons: 47500 at 500", x.bursts(ring, 0), 0);
        }
    }

    private static void burstByTurning() {
        Check.by("M the sum without sign of tons times (overhang less its own); floor(M / WIDE)");
        int[] wides = {1, 2, 7, 10, 99, 100};
        for (int curve : new int[] {1, 99, 100, 101, 499, 500, -1, -99, -500}) {
            for (int wide : wides) {
                LeaningTower x = new LeaningTower();
                x.ring(5, 1, 0, 0);
                x.ring(6, 1, 0, curve);
                int due = 2000 + Math.abs(curve) / wide;
                x.stone(5, wide, due);
                Check.due("curve " + curve + " wide " + wide, x.bursts(5, 0), 0);
                x.stone(5, wide, due - 1);
                Check.due("curve " + curve + " wide " + wide, x.bursts(5, 0), 1);
            }
        }
        LeaningTower x = new LeaningTower();
        x.ring(5, 1, 0, 0);
        x.ring(6, 1, 0, 30);
        x.ring(7, 1, 0, -30);
        x.stone(5, 1, 3000);
        Check.due("the sum's sign goes, not each one's", x.bursts(5, 0), 0);
        x.stone(6, 1, 2059);
        Check.due("less its own", x.bursts(6, 0), 1);
        x.stone(6, 1, 2060);
        Check.due("less its own", x.bursts(6, 0), 0);
        x.stone(7, 1, 1000);
        Check.due("nothing turns the topmost", x.bursts(7, 0), 0);
        x.stone(4, 1, 3000);
        Check.due("its own is that of a ring without tons, too", x.bursts(4, 0), 0);
        x.ring(4, 0, 0, -1);
        Check.due("its own is that of a ring without tons, too", x.bursts(4, 0), 1);
    }

    private static void burstAtItsEnds() {
        Check.by("bursts: at a lean (-10 to the 9 .. 10 to the 9)");
        LeaningTower x = new LeaningTower();
        x.ring(7, 1, 100, 0);
        x.stone(6, 1, 1000 + 100000);
        Check.due("the greatest", x.bursts(6, 1000000000), 0);
        Check.due("the least", x.bursts(6, -1000000000), 0);
        x.stone(6, 1, 1000 + 99999);
        Check.due("the greatest", x.bursts(6, 1000000000), 1);
        Check.due("the least", x.bursts(6, -1000000000), 1);
        Check.due("just below the greatest", x.bursts(6, 999999999), 0);
        Check.due("just above the least, which is rounded down", x.bursts(6, -999999999), 1);
        for (int lean : new int[] {1000000001, -1000000001, Check.LEAST, Check.GREATEST}) {
            Check.due("lean " + lean, x.bursts(6, lean), Check.NONE);
        }
        for (int ring : new int[] {-1, 8, Check.LEAST, Check.GREATEST}) {
            Check.due("ring " + ring, x.bursts(ring, 0), Check.NONE);
        }
    }

    /** Ring 6 bursts from a lean of a million on. */
    private static LeaningTower burstingAtAMillion() {
        LeaningTower x = new LeaningTower();
        x.ring(7, 1, 1, 0);
        x.stone(6, 1, 1000);
        return x;
    }

    private static void firstOf200() {
        Check.by("first: from a lean on, by a step, 200 at most");
        LeaningTower x = burstingAtAMillion();
        Check.due("the first at once", x.first(false, 1000000, 1), 1000000);
        Check.due("the second", x.first(false, 999999, 1), 1000000);
        Check.due("the 200th", x.first(false, 1000000 - 199, 1), 1000000);
        Check.due("the 201st", x.first(false, 1000000 - 200, 1), Check.NONE);
        Check.due("the 200th", x.first(true, 1000000 - 199, 1), 6);
        Check.due("the 201st", x.first(true, 1000000 - 200, 1), Check.NONE);
        Check.due("the 200th from 0", x.first(false, 0, 5026), 1000174);
        Check.due("200 from 0 reach 999975", x.first(false, 0, 5025), Check.NONE);
        Check.due("beyond it by the step", x.first(false, 999999, 10000000), 10999999);
        Check.due("already", x.first(false, 1234567, 10000000), 1234567);
    }

    private static void firstIsTheLeastRing() {
        Check.by("first: the least ring that bursts there (ring true), or the lean");
        LeaningTower x = burstingAtAMillion();
        x.stone(3, 1, 1000);
        Check.due("3 of 3 and 6", x.first(true, 0, 100000), 3);
        x.stone(3, 1, 1001);
        Check.due("6 alone", x.first(true, 0, 100000), 6);
        Check.due("3 is later", x.first(true, 2000000, 1), 3);
        x.stone(7, 1, 999);
        Check.due("7 at once, by its weight", x.first(true, 0, 100000), 7);
        Check.due("at 0", x.first(false, 0, 100000), 0);
        x.stone(0, 1, 999);
        Check.due("0 is the least", x.first(true, 0, 100000), 0);
        Check.due("none", new LeaningTower().first(true, 0, 1), Check.NONE);
    }

    private static void firstAtItsEnds() {
        Check.by("first: from (0 .. 10 to the 9), a step (1 .. 10 to the 7)");
        LeaningTower x = burstingAtAMillion();
        x.stone(6, 1, 1000 + 999);
        Check.due("from the greatest", x.first(false, 1000000000, 1), 1000000000);
        Check.due("the ring", x.first(true, 1000000000, 10000000), 6);
        Check.due("the greatest is the second", x.first(false, 990000000, 10000000), 1000000000);
        Check.due("from above", x.first(false, 1000000001, 1), Check.NONE);
        Check.due("from -1", x.first(false, -1, 1), Check.NONE);
        Check.due("step 0", x.first(false, 1000000000, 0), Check.NONE);
        Check.due("step above", x.first(false, 1000000000, 10000001), Check.NONE);
        Check.due("ends of int", x.first(false, Check.GREATEST, 1), Check.NONE);
        Check.due("ends of int", x.first(false, Check.LEAST, 1), Check.NONE);
        Check.due("ends of int", x.first(true, 1000000000, Check.GREATEST), Check.NONE);
        Check.due("ends of int", x.first(true, 1000000000, Check.LEAST), Check.NONE);
        x.stone(6, 1, 1000 + 1000);
        Check.due("no lean is above the greatest", x.first(false, 999999999, 10000000), Check.NONE);
        Check.due("no lean is above the greatest", x.first(true, 1000000000, 10000000), Check.NONE);
    }

    private static void noCauses() {
        Check.by("causes: all sets of them (none, too)");
        LeaningTower x = new LeaningTower();
        Check.due("nothing made nothing", x.sets(0), 1);
        Check.due("sure", x.lurch(0, true), 0);
        Check.due("maybe", x.lurch(0, false), 0);
        for (int n : new int[] {1, -1, 1000000, -1000000}) {
            Check.due("no set", x.sets(n), 0);
            Check.due("-2", x.lurch(n, true), -2);
            Check.due("-2", x.lurch(n, false), -2);
        }
        for (int n : new int[] {1000001, -1000001, Check.LEAST, Check.GREATEST}) {
            Check.due("can't be", x.sets(n), Check.NONE);
            Check.due("can't be", x.lurch(n, true), -1);
            Check.due("can't be", x.lurch(n, false), -1);
        }
    }

    private static void spansThatTouch() {
        Check.by("whose leasts together are not above the lurch and whose greatests together are not below it");
        LeaningTower x = new LeaningTower();
        x.cause(10, 20);
        int[][] rows = {{9, 0}, {10, 1}, {20, 1}, {21, 0}, {0, 1}};
        for (int[] row : rows) {
            Check.due("sets of " + row[0], x.sets(row[0]), row[1]);
        }
        x.cause(-3, -3);
        int[][] both = {{6, 0}, {7, 1}, {10, 2}, {17, 2}, {18, 1}, {20, 1}, {21, 0}, {-3, 1}, {-2, 0}, {-4, 0}};
        for (int[] row : both) {
            Check.due("sets of " + row[0], x.sets(row[0]), row[1]);
        }
        LeaningTower y = new LeaningTower();
        y.cause(1000000, 1000000);
        y.cause(-1000000, -1000000);
        Check.due("the greatest", y.lurch(1000000, true), 1);
        Check.due("the least", y.lurch(-1000000, true), 2);
        Check.due("both, or none", y.sets(0), 2);
        Check.due("both, or none", y.lurch(0, true), 0);
        Check.due("both, or none", y.lurch(0, false), 3);
    }

    private static void tenCauses() {
        Check.by("causes: 10 at most");
        LeaningTower x = new LeaningTower();
        for (int i = 0; i < 10; i++) {
            Check.due("cause", x.cause(1 << i, 1 << i), i);
        }
        Check.due("an 11th", x.cause(1, 1), Check.NONE);
        Check.due("an 11th that can't be", x.cause(2, 1), Check.NONE);
        Check.due("causes", x.all(4), 10);
        for (int n : new int[] {0, 1, 512, 1023, 682}) {
            Check.due("one set", x.sets(n), 1);
            Check.due("sure", x.lurch(n, true), n);
            Check.due("maybe", x.lurch(n, false), n);
        }
        Check.due("no set", x.sets(1024), 0);
        LeaningTower y = new LeaningTower();
        for (int i = 0; i < 10; i++) {
            y.cause(-1000000, 1000000);
        }
        Check.due("all sets", y.sets(0), 1024);
        Check.due("all but none", y.sets(1), 1023);
        Check.due("all but none", y.sets(-1000000), 1023);
        LeaningTower z = new LeaningTower();
        for (int i = 0; i < 10; i++) {
            z.cause(1000000, 1000000);
        }
        Check.due("each one alone", z.sets(1000000), 10);
        Check.due("none sure", z.lurch(1000000, true), 0);
        Check.due("all maybe", z.lurch(1000000, false), 1023);
    }

    private static void sureAndMaybe() {
        Check.by("sure are those in all of these sets, maybe those in some");
        LeaningTower x = new LeaningTower();
        x.cause(5, 5);
        x.cause(3, 3);
        x.cause(2, 2);
        Check.due("5 or 3 and 2", x.sets(5), 2);
        Check.due("sure of 5", x.lurch(5, true), 0);
        Check.due("maybe of 5", x.lurch(5, false), 7);
        Check.due("sure of 8", x.lurch(8, true), 3);
        Check.due("maybe of 8", x.lurch(8, false), 3);
        Check.due("sure of 10", x.lurch(10, true), 7);
        Check.due("none of 4", x.lurch(4, true), -2);
        x.cause(0, 0);
        Check.due("with one that may be or not", x.sets(10), 2);
        Check.due("it is not sure", x.lurch(10, true), 7);
        Check.due("it is maybe", x.lurch(10, false), 15);
    }

    private static void forgetAll() {
        Check.by("forget: all causes go: how many there were");
        LeaningTower x = new LeaningTower();
        Check.due("none", x.forget(), 0);
        x.cause(5, 5);
        x.cause(7, 7);
        Check.due("two", x.forget(), 2);
        Check.due("none", x.forget(), 0);
        Check.due("causes", x.all(4), 0);
        Check.due("of 5", x.sets(5), 0);
        Check.due("of 0", x.sets(0), 1);
        for (int i = 0; i < 10; i++) {
            Check.due("from 0 on", x.cause(i, i), i);
        }
        Check.due("an 11th", x.cause(1, 1), Check.NONE);
        Check.due("ten", x.forget(), 10);
        Check.due("from 0 on", x.cause(3, 3), 0);
        Check.due("that one alone", x.lurch(3, true), 1);
    }
}

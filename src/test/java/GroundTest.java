import java.util.function.Consumer;

/** The edges of the tower and of its days: the first and the last day, the least and the greatest that is told. */
public final class GroundTest {
    public static void main(String[] args) {
        columns();
        stiffAtItsEnds();
        tonsAtTheirEnds();
        highAtItsEnds();
        curveAtItsEnds();
        withoutWater();
        waterAtItsEnds();
        waterOfTheNearestDay();
        warmthAtItsEnds();
        warmthOfTheNearestDay();
        toldAnew();
        settledAheadOfDay0();
        leanRoundsDown();
        leanAtItsEnds();
        overhangRoundsDown();
        loadRoundsDown();
        loadIsZeroAtLeast();
        loadByTheLeanAhead();
        settledRoundsDown();
        leadOnItsDays();
        leadOnTheFirstAndTheLastDay();
        leadAtItsEnds();
        pipeOnTheFirstAndTheLastDay();
        litresAtTheirEnds();
        frostOnTheFirstAndTheLastDay();
        frostDayByDay();
        aboveAtItsEnds();
        lastDayThatCanBeAsked();
        asOneNumberOfMany();
        Check.end("GroundTest");
    }

    private static LeaningTower with(Consumer<LeaningTower> told) {
        LeaningTower x = new LeaningTower();
        told.accept(x);
        return x;
    }

    private static void columns() {
        Check.by("X of a column is 2 times its number less 15");
        for (int column = 0; column < 16; column++) {
            int c = column;
            LeaningTower x = with(y -> y.pipe(0, c, 1));
            Check.due("lean by column " + c, x.lean(1), Math.floorDiv(1000 * 50 * (2 * c - 15), 1360));
            Check.due("settled " + c, x.settled(c, 1), 50);
            Check.due("settled beside it", x.settled((c + 1) % 16, 1), 0);
        }
    }

    private static void stiffAtItsEnds() {
        Check.by("stiff (1 .. 1000; 100 at first)");
        LeaningTower x = with(y -> y.ring(0, 5000, 0, 0));
        for (int column = 0; column < 16; column++) {
            Check.due("100 at first", x.settled(column, 1), 312 * 150 / 1000);
        }
        x.ring(0, 320, 0, 0);
        for (int column = 0; column < 16; column++) {
            Check.due("100 at first", x.settled(column, 1), 20 * 150 / 1000);
        }
        x.ring(0, 5000, 0, 0);
        for (int column : new int[] {0, 15}) {
            Check.due("stiff 1", x.stiff(column, 1), true);
            Check.due("settled", x.settled(column, 1), 312 * 150 / 10);
            Check.due("stiff 1000", x.stiff(column, 1000), true);
            Check.due("settled", x.settled(column, 1), 312 * 150 / 10000);
        }
        Check.due("of no other column", x.settled(1, 1) + x.settled(14, 1), 2 * (312 * 150 / 1000));
    }

    private static void tonsAtTheirEnds() {
        Check.by("tons (0 .. 5000; 0 at first)");
        LeaningTower x = new LeaningTower();
        Check.due("0 at first", x.load(15, 0), 0);
        for (int ring = 0; ring < 8; ring++) {
            Check.due("ring", x.ring(ring, 5000, 0, 0), true);
            Check.due("load", x.load(15, 0), (ring + 1) * 5000 / 16);
        }
        for (int ring = 7; ring >= 0; ring--) {
            Check.due("ring", x.ring(ring, 0, 0, 0), true);
            Check.due("load", x.load(15, 0), ring * 5000 / 16);
        }
        Check.due("1 ton", with(y -> y.ring(0, 1, 0, 0)).load(0, 0), 0);
        Check.due("16 tons", with(y -> y.ring(7, 16, 0, 0)).load(0, 0), 1);
    }

    private static void highAtItsEnds() {
        Check.by("high (0 .. 100; 0 at first)");
        // Column 15 alone settles by 50000 on day 0, so lean is 551470 and 100 times that is 55 millions.
        LeaningTower x = with(y -> y.pipe(0, 15, 1000));
        x.ring(0, 5000, 0, 0);
        Check.due("high 0", x.load(15, 1), 312);
        x.ring(0, 5000, 100, 0);
        Check.due("lean 551470 and what the load gave", x.lean(1), 551470);
        Check.due("high 100", x.load(15, 1), (5000L * 42500 + 5000 * 55 * 15) / 680000);
        x.ring(0, 5000, 1, 0);
        Check.due("high 1", x.load(15, 1), 312);
    }

    private static void curveAtItsEnds() {
        Check.by("curve (-500 .. 500; 0 at first)");
        LeaningTower x = new LeaningTower();
        x.ring(3, 5000, 0, 500);
        Check.due("500, column 15", x.load(15, 0), (5000L * 42500 + 5000L * 500 * 15) / 680000);
        Check.due("500, column 0", x.load(0, 0), (5000L * 42500 - 5000L * 500 * 15) / 680000);
        x.ring(3, 5000, 0, -500);
        Check.due("-500, column 15", x.load(15, 0), (5000L * 42500 - 5000L * 500 * 15) / 680000);
        Check.due("-500, column 0", x.load(0, 0), (5000L * 42500 + 5000L * 500 * 15) / 680000);
        x.ring(3, 5000, 0, 0);
        Check.due("0", x.load(15, 0), 312);
    }

    /** A tower that settles on every day, in each column, by as much as 100 and the water, and not by its lean. */
    private static LeaningTower level() {
        LeaningTower x = new LeaningTower();
        for (int column = 0; column < 16; column++) {
            x.stiff(column, 1);
        }
        x.ring(0, 160, 0, 0);
        return x;
    }

    private static long grown(LeaningTower x, int day) {
        return x.settled(7, day + 1) - x.settled(7, day);
    }

    private static void withoutWater() {
        Check.by("water: 50 without");
        LeaningTower x = level();
        for (int day : new int[] {0, 1, 199, 398, 399}) {
            Check.due("day " + day, grown(x, day), 150);
        }
        x.water(200, 7);
        Check.due("ahead of the day told", grown(x, 199), 150);
        Check.due("on the day told", grown(x, 200), 107);
        Check.due("day 0", grown(x, 0), 150);
    }

    private static void waterAtItsEnds() {
        Check.by("water: 0 .. 100, of a day (0 .. 399)");
        LeaningTower x = level();
        Check.due("100 from day 0", x.water(0, 100), true);
        Check.due("day 0", grown(x, 0), 200);
        Check.due("day 399", grown(x, 399), 200);
        Check.due("0 on day 399", x.water(399, 0), true);
        Check.due("day 398", grown(x, 398), 200);
        Check.due("day 399", grown(x, 399), 100);
        Check.due("0 on day 0", x.water(0, 0), true);
        Check.due("day 0", grown(x, 0), 100);
        Check.due("day 398", grown(x, 398), 100);
    }

    private static void waterOfTheNearestDay() {
        Check.by("water: as told of that day or else of the nearest one ahead");
        LeaningTower x = level();
        x.water(10, 10);
        x.water(20, 20);
        x.water(15, 15);
        int[][] due = {{9, 150}, {10, 110}, {14, 110}, {15, 115}, {19, 115}, {20, 120}, {21, 120}, {399, 120}};
        for (int[] row : due) {
            Check.due("day " + row[0], grown(x, row[0]), row[1]);
        }
        x.water(10, 90);
        Check.due("told anew", grown(x, 14), 190);
        Check.due("not beyond the next one told", grown(x, 15), 115);
    }

    private static int rightOn(LeaningTower x, int day) {
        int act = x.reading(3, day, 0);
        return x.right(act);
    }

    private static void warmthAtItsEnds() {
        Check.by("warmth: -20 .. 50, of a day (0 .. 399), 0 without");
        LeaningTower x = with(y -> y.gauge(3, 100, 0, 0));
        Check.due("without, day 0", rightOn(x, 0), 0);
        Check.due("without, day 399", rightOn(x, 399), 0);
        Check.due("-20 from day 0", x.warmth(0, -20), true);
        Check.due("day 0", rightOn(x, 0), 2000);
        Check.due("day 399", rightOn(x, 399), 2000);
        Check.due("50 on day 399", x.warmth(399, 50), true);
        Check.due("day 398", rightOn(x, 398), 2000);
        Check.due("day 399", rightOn(x, 399), -5000);
    }

    private static void warmthOfTheNearestDay() {
        Check.by("warmth: told like water");
        LeaningTower x = with(y -> y.gauge(3, -1, 0, 0));
        x.warmth(10, 10);
        x.warmth(20, 20);
        x.warmth(15, 15);
        int[][] due = {{9, 0}, {10, 10}, {14, 10}, {15, 15}, {19, 15}, {20, 20}, {399, 20}};
        for (int[] row : due) {
            Check.due("day " + row[0], rightOn(x, row[0]), row[1]);
        }
        Check.due("water and warmth are two", with(y -> y.warmth(0, 50)).settled(0, 1), 0);
        LeaningTower y = level();
        y.warmth(0, 50);
        Check.due("warmth does not wet", grown(y, 0), 150);
        y.water(5, 90);
        y.gauge(3, 1, 0, 0);
        Check.due("water does not warm", rightOn(y, 5), -50);
    }

    private static void toldAnew() {
        Check.by("what is told anew holds for days that were asked for before");
        LeaningTower x = level();
        Check.due("settled", x.settled(7, 400), 400 * 150);
        x.water(0, 0);
        Check.due("water", x.settled(7, 400), 400 * 100);
        x.stiff(7, 2);
        Check.due("stiff", x.settled(7, 400), 400 * 50);
        x.ring(0, 320, 0, 0);
        Check.due("ring", x.settled(7, 400), 400 * 100);
        x.pipe(399, 7, 1);
        Check.due("pipe of the last day", x.settled(7, 400), 400 * 100 + 50);
        x.lead(160, 0, 0, 0);
        Check.due("lead of the first day", x.settled(7, 400), 400 * 100 + 50 + 50);
        x.water(399, 100);
        Check.due("water of the last day", x.settled(7, 400), 399 * 100 + 50 + 50 + 200);
        x.annul(2);
        Check.due("void", x.settled(7, 400), 399 * 100 + 50 + 200);
    }

    private static void settledAheadOfDay0() {
        Check.by("settled of each column is 0 ahead of day 0");
        LeaningTower x = level();
        x.pipe(0, 3, 1000);
        x.frost(0, 4);
        x.lead(1000, 20000, 0, 399);
        for (int column = 0; column < 16; column++) {
            Check.due("column " + column, x.settled(column, 0), 0);
        }
        Check.due("lean", x.lean(0), 0);
    }

    private static void leanRoundsDown() {
        Check.by("lean is floor(1000 times the sum of X times settled over all columns / 1360)");
        Check.due("50000 / 1360", with(x -> x.pipe(0, 8, 1)).lean(1), 36);
        Check.due("-50000 / 1360", with(x -> x.pipe(0, 7, 1)).lean(1), -37);
        Check.due("1360 times 50000 / 1360", with(x -> x.pipe(0, 8, 136)).lean(1), 5000);
        Check.due("-1360 times 50000 / 1360", with(x -> x.pipe(0, 7, 136)).lean(1), -5000);
        LeaningTower x = new LeaningTower();
        x.pipe(0, 7, 1);
        x.pipe(0, 8, 1);
        Check.due("0 of both together", x.lean(1), 0);
    }

    /** A tower of the weakest ground, with all stones told one way. */
    private static Consumer<LeaningTower> weak(int curve) {
        return x -> {
            for (int i = 0; i < 16; i++) {
                x.stiff(i, 1);
                x.ring(i, 5000, 100, curve);
            }
            x.water(0, 100);
        };
    }

    private static void leanAtItsEnds() {
        Check.by("lean is not above 10 to the 9, not below -10 to the 9");
        for (int curve : new int[] {500, -500}) {
            LeaningTower[] twins = new LeaningTower[17];
            for (int i = 0; i < twins.length; i++) {
                twins[i] = with(weak(curve));
            }
            int bounded = 0;
            for (int day = 0; day <= 400; day++) {
                long sum = 0;
                for (int column = 0; column < 16; column++) {
                    sum += (2 * column - 15) * twins[column].settled(column, day);
                }
                long free = Math.floorDiv(1000 * sum, 1360L);
                long due = Math.max(-Check.BILLION, Math.min(Check.BILLION, free));
                Check.due("curve " + curve + " lean " + day, twins[16].lean(day), due);
                bounded += free == due ? 0 : 1;
            }
            Check.due("some days are bounded, some are not", bounded > 0 && bounded < 400, true);
            int last = with(weak(curve)).lean(400);
            Check.due("the last day", last, curve > 0 ? Check.BILLION : -Check.BILLION);
            LeaningTower x = with(weak(curve));
            Check.due("above the greatest", x.above(Check.BILLION), Check.NONE);
            Check.due("above one less", x.above(Check.BILLION - 1) >= 0, curve > 0);
            Check.due("above what is below the least", x.above(-Check.BILLION - 1), 0);
        }
    }

    /** A ring 7 of one ton over a ring 6 of none: M at a lean is what ring 7 overhangs, without sign. */
    private static void overhangRoundsDown() {
        Check.by("overhang of a ring: curve and floor(high times lean / 1000000)");
        int[][] rows = {{0, 1, 0, 0}, {0, 1, 999999, 0}, {0, 1, 1000000, 1}, {0, 1, -1, 1}, {0, 1, -1000000, 1},
            {0, 1, -1000001, 2}, {1, 1, -1, 0}, {-1, 1, 1000000, 0}, {-500, 0, 1000000000, 500},
            {500, 0, -1000000000, 500}, {500, 100, 1000000000, 100500}, {-500, 100, -1000000000, 100500},
            {0, 100, 9999, 0}, {0, 100, 10000, 1}};
        for (int[] row : rows) {
            LeaningTower x = new LeaningTower();
            x.ring(7, 1, row[1], row[0]);
            x.stone(6, 1, 1000 + row[3]);
            Check.due("not above " + row[3] + " at " + row[2], x.bursts(6, row[2]), 0);
            if (row[3] > 0) {
                x.stone(6, 1, 1000 + row[3] - 1);
                Check.due("above one less at " + row[2], x.bursts(6, row[2]), 1);
            }
        }
    }

    private static void loadRoundsDown() {
        Check.by("load of a column: floor((total times 42500 and moment times X) / 680000)");
        Check.due("15 tons", with(x -> x.ring(0, 15, 0, 0)).load(8, 0), 0);
        Check.due("16 tons", with(x -> x.ring(0, 16, 0, 0)).load(8, 0), 1);
        Check.due("31 tons", with(x -> x.ring(0, 31, 0, 0)).load(8, 0), 1);
        Check.due("16 tons, a little to the north", with(x -> x.ring(0, 16, 0, -1)).load(8, 0), 0);
        Check.due("16 tons, a little to the south", with(x -> x.ring(0, 16, 0, 1)).load(8, 0), 1);
        Check.due("16 tons, a little to the south", with(x -> x.ring(0, 16, 0, 1)).load(7, 0), 0);
        LeaningTower y = with(x -> x.ring(0, 15, 0, 0));
        y.ring(1, 1, 0, 1);
        Check.due("679999 / 680000", y.load(7, 0), 0);
        Check.due("680001 / 680000", y.load(8, 0), 1);
        y.ring(1, 1, 0, -1);
        Check.due("680001 / 680000", y.load(7, 0), 1);
        Check.due("679999 / 680000", y.load(8, 0), 0);
    }

    private static void loadIsZeroAtLeast() {
        Check.by("load: 0 at least");
        LeaningTower x = with(y -> y.lead(1, -20000, 0, 399));
        Check.due("42500 less 300000", x.load(15, 0), 0);
        Check.due("so it does not rise", x.settled(15, 1), 0);
        Check.due("42500 and 300000", x.load(0, 0), 0);
        LeaningTower y = with(z -> z.lead(1000, -20000, 0, 399));
        Check.due("42500000 less 300000000", y.load(15, 0), 0);
        Check.due("42500000 and 300000000", y.load(0, 0), 503);
        Check.due("so it does not rise", y.settled(15, 400), 0);
        // 42500 times 1000 are 2833333.3 times 15: at that arm the load of column 15 comes to 0.
        Check.due("just above 0", with(z -> z.lead(1000, -2788, 0, 0)).load(15, 0), 1);
        Check.due("just below 1", with(z -> z.lead(1000, -2789, 0, 0)).load(15, 0), 0);
        Check.due("just below 0", with(z -> z.lead(1000, -2834, 0, 0)).load(15, 0), 0);
    }

    private static void loadByTheLeanAhead() {
        Check.by("all by lean ahead of the day");
        LeaningTower x = new LeaningTower();
        x.ring(0, 5000, 100, 0);
        x.pipe(0, 15, 1000);
        Check.due("day 0 knows nothing of its own pipe", x.load(15, 0), 312);
        Check.due("day 1 does", x.load(15, 1), (5000L * 42500 + 5000 * 55 * 15) / 680000);
        x.ring(0, 5000, 100, 1);
        Check.due("day 0 by the curve alone", x.load(15, 0), (5000L * 42500 + 5000 * 15) / 680000);
    }

    private static void settledRoundsDown() {
        Check.by("settled by floor(load times (100 and water) / (10 times stiff)) more");
        LeaningTower x = with(y -> y.ring(0, 16, 0, 0));
        Check.due("150 / 1000", x.settled(3, 1), 0);
        Check.due("day by day, never together", x.settled(3, 400), 0);
        x.stiff(3, 16);
        Check.due("150 / 160", x.settled(3, 400), 0);
        x.stiff(3, 15);
        Check.due("150 / 150", x.settled(3, 1), 1);
        Check.due("150 / 150", x.settled(3, 400), 400);
        x.water(0, 49);
        Check.due("149 / 150", x.settled(3, 400), 0);
    }

    private static void leadOnItsDays() {
        Check.by("lead: from a day on, up to a day (that one, too)");
        LeaningTower x = with(y -> y.lead(160, 0, 5, 7));
        int[] due = {0, 10, 10, 10, 0};
        for (int day = 4; day <= 8; day++) {
            Check.due("day " + day, x.load(3, day), due[day - 4]);
        }
        LeaningTower one = with(y -> y.lead(160, 0, 5, 5));
        Check.due("the day ahead", one.load(3, 4), 0);
        Check.due("one day alone", one.load(3, 5), 10);
        Check.due("the day behind", one.load(3, 6), 0);
    }

    private static void leadOnTheFirstAndTheLastDay() {
        Check.by("lead of day 0 and of day 399");
        LeaningTower x = with(y -> y.lead(160, 0, 0, 399));
        Check.due("day 0", x.load(3, 0), 10);
        Check.due("day 399", x.load(3, 399), 10);
        LeaningTower first = with(y -> y.lead(160, 0, 0, 0));
        Check.due("day 0 alone", first.load(3, 0), 10);
        Check.due("day 1", first.load(3, 1), 0);
        LeaningTower last = with(y -> y.lead(160, 0, 399, 399));
        Check.due("day 398", last.load(3, 398), 0);
        Check.due("day 399 alone", last.load(3, 399), 10);
        last.stiff(3, 1);
        Check.due("settled behind it", last.settled(3, 400), 150);
        Check.due("settled ahead of it", last.settled(3, 399), 0);
    }

    private static void leadAtItsEnds() {
        Check.by("lead: tons (1 .. 1000) at an arm (-20000 .. 20000)");
        LeaningTower x = new LeaningTower();
        for (int i = 0; i < 15; i++) {
            x.lead(1, 0, 0, 0);
        }
        Check.due("15 times 1 ton", x.load(3, 0), 0);
        x.lead(1, 0, 0, 0);
        Check.due("16 times 1 ton", x.load(3, 0), 1);
        LeaningTower y = with(z -> z.lead(1000, 20000, 0, 0));
        Check.due("the greatest, column 15", y.load(15, 0), (42500000 + 300000000) / 680000);
        Check.due("the greatest, column 0", y.load(0, 0), 0);
        LeaningTower z = with(w -> w.lead(1000, -20000, 0, 0));
        Check.due("the least arm, column 0", z.load(0, 0), (42500000 + 300000000) / 680000);
        LeaningTower many = new LeaningTower();
        for (int i = 0; i < 200; i++) {
            many.lead(1000, 20000, 0, 399);
        }
        Check.due("200 of the greatest", many.load(15, 399), (200000L * 42500 + 4000000000L * 15) / 680000);
    }

    private static void pipeOnTheFirstAndTheLastDay() {
        Check.by("a pipe on day 0 and on day 399");
        LeaningTower x = with(y -> y.pipe(0, 0, 2));
        Check.due("ahead of day 0", x.settled(0, 0), 0);
        Check.due("ahead of day 1", x.settled(0, 1), 100);
        Check.due("on no other day", x.settled(0, 400), 100);
        LeaningTower y = with(z -> z.pipe(399, 15, 2));
        Check.due("ahead of day 399", y.settled(15, 399), 0);
        Check.due("ahead of day 400", y.settled(15, 400), 100);
        Check.due("lean ahead of day 399", y.lean(399), 0);
        Check.due("lean ahead of day 400", y.lean(400), 1102);
    }

    private static void litresAtTheirEnds() {
        Check.by("litres (1 .. 1000)");
        Check.due("1", with(y -> y.pipe(3, 4, 1)).settled(4, 4), 50);
        Check.due("1000", with(y -> y.pipe(3, 4, 1000)).settled(4, 4), 50000);
        LeaningTower x = new LeaningTower();
        for (int i = 0; i < 200; i++) {
            x.pipe(3, 4, 1000);
        }
        Check.due("200 times 1000", x.settled(4, 4), 10000000);
    }

    private static void frostOnTheFirstAndTheLastDay() {
        Check.by("2000 less for each frost of that day, 3000 more for each frost on the day ahead");
        LeaningTower x = with(y -> y.frost(0, 0));
        Check.due("ahead of day 0", x.settled(0, 0), 0);
        Check.due("ahead of day 1", x.settled(0, 1), -2000);
        Check.due("ahead of day 2", x.settled(0, 2), 1000);
        Check.due("ahead of day 3", x.settled(0, 3), 1000);
        LeaningTower y = with(z -> z.frost(398, 15));
        Check.due("ahead of day 398", y.settled(15, 398), 0);
        Check.due("ahead of day 399", y.settled(15, 399), -2000);
        Check.due("ahead of day 400", y.settled(15, 400), 1000);
        LeaningTower z = with(w -> w.frost(399, 15));
        Check.due("ahead of day 399", z.settled(15, 399), 0);
        Check.due("ahead of day 400, which has no day behind it", z.settled(15, 400), -2000);
        z.annul(1);
        Check.due("void", z.settled(15, 400), 0);
    }

    private static void frostDayByDay() {
        Check.by("frost of each day behind another");
        LeaningTower x = new LeaningTower();
        for (int i = 0; i < 3; i++) {
            x.frost(5, 2);
        }
        x.frost(6, 2);
        Check.due("three of a day", x.settled(2, 6), -6000);
        Check.due("their thaw and another", x.settled(2, 7), -6000 + 9000 - 2000);
        Check.due("the last thaw", x.settled(2, 8), -6000 + 9000 - 2000 + 3000);
        Check.due("no more", x.settled(2, 9), 4000);
        Check.due("of its column alone", x.settled(1, 9) + x.settled(3, 9), 0);
        LeaningTower y = new LeaningTower();
        for (int i = 0; i < 200; i++) {
            y.frost(5, 2);
        }
        Check.due("200 of a day", y.settled(2, 6), -400000);
        Check.due("200 of a day", y.settled(2, 7), 200000);
    }

    private static void aboveAtItsEnds() {
        Check.by("the first day (0 .. 400) ahead of which lean is above a number");
        LeaningTower x = with(y -> y.pipe(399, 15, 1000));
        Check.due("day 0", x.above(-1), 0);
        Check.due("0 is not above 0", x.above(0), 400);
        Check.due("day 400", x.above(551469), 400);
        Check.due("not above itself", x.above(551470), Check.NONE);
        Check.due("the least int", x.above(Check.LEAST), 0);
        Check.due("the greatest int", x.above(Check.GREATEST), Check.NONE);
        LeaningTower y = with(z -> z.pipe(0, 15, 1000));
        Check.due("the first of many", y.above(551469), 1);
        LeaningTower z = with(w -> w.pipe(0, 0, 1000));
        Check.due("the first, though none behind it is", z.above(-1), 0);
        Check.due("without works", new LeaningTower().above(0), Check.NONE);
    }

    private static void lastDayThatCanBeAsked() {
        Check.by("a day (0 .. 400) of lean and settled, (0 .. 399) of load");
        LeaningTower x = level();
        Check.due("settled 400", x.settled(15, 400), 400 * 150);
        Check.due("settled 401", x.settled(15, 401), Check.NO_SETTLED);
        Check.due("settled -1", x.settled(15, -1), Check.NO_SETTLED);
        Check.due("lean 400", x.lean(400), 0);
        Check.due("lean 401", x.lean(401), Check.NO_LEAN);
        Check.due("lean -1", x.lean(-1), Check.NO_LEAN);
        Check.due("load 399", x.load(15, 399), 10);
        Check.due("load 400", x.load(15, 400), Check.NONE);
        Check.due("load -1", x.load(15, -1), Check.NONE);
        Check.due("load of column 16", x.load(16, 0), Check.NONE);
        Check.due("load of column -1", x.load(-1, 0), Check.NONE);
    }

    /** Days may be asked for in any order. */
    private static void asOneNumberOfMany() {
        Check.by("a day, one behind the other from day 0 on");
        LeaningTower forward = with(weak(3));
        LeaningTower backward = with(weak(3));
        long[] due = new long[401];
        for (int day = 0; day <= 400; day++) {
            due[day] = forward.lean(day);
        }
        for (int day = 400; day >= 0; day--) {
            Check.due("lean " + day, backward.lean(day), due[day]);
        }
    }
}

import java.util.function.ToIntFunction;

/** The edges of the book: its first and its last act, what is void and what is known, mandates in force, breaches. */
public final class BookTest {
    private static final String ALWAYS = "allow pipe when all;limit pipe ";

    public static void main(String[] args) {
        emptyBook();
        numbersFromOneOn();
        eachKindAsTheLast();
        fullBook();
        the512thCall();
        knownAtNone();
        knownAtTheLast();
        knownAtOne();
        knownUpTo();
        voidBy();
        voidAlready();
        voidOfEachKind();
        voidWhileLess();
        counts();
        noMandate();
        forceOnItsDays();
        forceOfLikeDays();
        forceAsKnown();
        leanAhead();
        rateOnDay0();
        rateRoundsNothing();
        worstUpToTheDay();
        waterAndDay();
        tonsOnTheirDays();
        drawnAhead();
        loadOfTheDay();
        muchAtItsEnds();
        works();
        noBreaches();
        breachByItsMuch();
        breachOnItsFirstDay();
        allBreaches();
        breachesAnew();
        Check.end("BookTest");
    }

    private static void emptyBook() {
        Check.by("no acts");
        LeaningTower x = new LeaningTower();
        for (int what = 0; what <= 4; what++) {
            Check.due("all " + what, x.all(what), 0);
        }
        Check.due("annul 0", x.annul(0), Check.NONE);
        Check.due("annul 1", x.annul(1), Check.NONE);
        Check.due("as 0", x.as(0), true);
        Check.due("as 1", x.as(1), false);
        Check.due("as NONE", x.as(Check.NONE), true);
        Check.due("as -2", x.as(-2), false);
        Check.due("right 0", x.right(0), Check.NO_LEAN);
        Check.due("right 1", x.right(1), Check.NO_LEAN);
        Check.due("force", x.force(0), Check.NONE);
        Check.due("may", x.may(0, 0, 0), 1);
        Check.due("breaches", x.breaches(), 0);
        Check.due("breach", x.breach(0), Check.NONE);
        Check.due("fit", x.fit(0, 399, true), Check.NO_READINGS);
        Check.due("odd", x.odd(0, 399), Check.NONE);
    }

    private static void numbersFromOneOn() {
        Check.by("acts, numbered from 1 on");
        LeaningTower x = new LeaningTower();
        Check.due("lead", x.lead(1, 0, 0, 0), 1);
        Check.due("refused", x.lead(0, 0, 0, 0), Check.NONE);
        Check.due("pipe", x.pipe(0, 0, 1), 2);
        Check.due("refused", x.pipe(0, 0, 0), Check.NONE);
        Check.due("frost", x.frost(0, 0), 3);
        Check.due("refused", x.frost(0, 16), Check.NONE);
        Check.due("reading", x.reading(0, 0, 0), 4);
        Check.due("refused", x.reading(4, 0, 0), Check.NONE);
        Check.due("mandate", x.mandate(0), 5);
        Check.due("refused", Check.mandate(x, "x", 0), Check.NONE);
        Check.due("void", x.annul(1), 6);
        Check.due("refused", x.annul(1), Check.NONE);
        Check.due("lead", x.lead(1, 0, 0, 0), 7);
        Check.due("acts", x.all(0), 7);
    }

    private static LeaningTower filled(int acts) {
        LeaningTower x = new LeaningTower();
        for (int act = 1; act <= acts; act++) {
            Check.due("reading", x.reading(0, 0, act), act);
        }
        return x;
    }

    private static void eachKindAsTheLast() {
        Check.by("200 at most: the 200th of each kind");
        LeaningTower lead = filled(199);
        Check.due("lead", lead.lead(160, 0, 0, 399), 200);
        Check.due("load", lead.load(0, 0), 10);
        LeaningTower pipe = filled(199);
        Check.due("pipe", pipe.pipe(0, 0, 1), 200);
        Check.due("settled", pipe.settled(0, 1), 50);
        LeaningTower frost = filled(199);
        Check.due("frost", frost.frost(0, 0), 200);
        Check.due("settled", frost.settled(0, 1), -2000);
        LeaningTower reading = filled(199);
        Check.due("reading", reading.reading(0, 0, -7), 200);
        Check.due("right", reading.right(200), -7);
        LeaningTower mandate = filled(199);
        Check.due("mandate", Check.mandate(mandate, "stop when all;", 0), 200);
        Check.due("force", mandate.force(0), 200);
        Check.due("may", mandate.may(0, 0, 0), 2);
        LeaningTower annul = filled(199);
        Check.due("annul", annul.annul(199), 200);
        Check.due("right", annul.right(199), Check.NO_LEAN);
        Check.due("as ahead of it", annul.as(199), true);
        Check.due("right", annul.right(199), 199);
    }

    private static void fullBook() {
        Check.by("NONE (-2 of a mandate), if there are 200");
        LeaningTower x = filled(200);
        Check.due("lead", x.lead(1, 0, 0, 0), Check.NONE);
        Check.due("pipe", x.pipe(0, 0, 1), Check.NONE);
        Check.due("frost", x.frost(0, 0), Check.NONE);
        Check.due("reading", x.reading(0, 0, 0), Check.NONE);
        Check.due("annul 1", x.annul(1), Check.NONE);
        Check.due("annul 200", x.annul(200), Check.NONE);
        Check.due("annul 201", x.annul(201), Check.NONE);
        Check.due("mandate", Check.mandate(x, "stop when", 0), -2);
        Check.due("no text is read then", x.fault(0), 0);
        Check.due("no text is read then", x.fault(1), Check.NONE);
        Check.due("the tape went", x.end(1), false);
        Check.due("a mandate of no such day", Check.mandate(x, "", 400), -2);
        Check.due("acts", x.all(0), 200);
        Check.due("readings", x.all(2), 200);
        Check.due("as 200", x.as(200), true);
        Check.due("as 201", x.as(201), false);
        Check.due("right 200", x.right(200), 200);
        Check.due("right 201", x.right(201), Check.NO_LEAN);
        Check.due("200 readings fit", x.fit(0, 0, false), 200 - 1000);
        Check.due("200 readings fit", x.fit(0, 0, true), 1 + 1000);
    }

    private static void the512thCall() {
        Check.by("an object is used for at most 512 calls");
        LeaningTower x = new LeaningTower();
        int calls = 0;
        for (int i = 1; i <= 40; i++, calls++) {
            Check.due("feed", x.feed(0x20202020, 0x20202020, 0x20202020, 0x20202020, 0x20202020), 20 * i);
        }
        Check.due("mandate", x.mandate(399), 1);
        calls++;
        for (int act = 2; act <= 200; act++, calls++) {
            Check.due("pipe", x.pipe(act, 8, 1), act);
        }
        for (; calls < 511; calls++) {
            Check.due("lean", x.lean(calls - 111), Math.max(0, Math.min(199, calls - 113)) * 50000 / 1360);
        }
        Check.due("the 512th", x.breaches(), 199);
    }

    private static void knownAtNone() {
        Check.by("as: 0: none");
        LeaningTower x = new LeaningTower();
        x.pipe(0, 15, 1000);
        Check.mandate(x, "stop when all;", 0);
        x.reading(0, 0, 5);
        Check.due("as 0", x.as(0), true);
        Check.due("lean", x.lean(1), 0);
        Check.due("force", x.force(0), Check.NONE);
        Check.due("right", x.right(3), Check.NO_LEAN);
        Check.due("fit", x.fit(0, 0, true), Check.NO_READINGS);
        Check.due("breaches", x.breaches(), 0);
        Check.due("acts", x.all(0), 3);
        Check.due("known at", x.all(1), 0);
        Check.due("readings", x.all(2), 0);
        Check.due("works", x.all(3), 0);
        Check.due("a pipe is written still", x.pipe(0, 0, 1), 4);
        Check.due("but not known", x.settled(0, 1), 0);
        Check.due("known at", x.all(1), 0);
    }

    private static void knownAtTheLast() {
        Check.by("as: NONE: always the last one");
        LeaningTower x = new LeaningTower();
        Check.due("of none", x.all(1), 0);
        x.pipe(0, 15, 1);
        Check.due("from the first on", x.all(1), 1);
        x.as(1);
        x.pipe(0, 15, 1);
        Check.due("as 1 stays", x.all(1), 1);
        Check.due("as 1", x.settled(15, 1), 50);
        x.as(Check.NONE);
        Check.due("the last", x.all(1), 2);
        Check.due("the last", x.settled(15, 1), 100);
        x.pipe(0, 15, 1);
        Check.due("always", x.all(1), 3);
        Check.due("always", x.settled(15, 1), 150);
    }

    private static void knownAtOne() {
        Check.by("as: true; false if there is none such");
        LeaningTower x = filled(3);
        for (int act = 0; act <= 3; act++) {
            Check.due("as " + act, x.as(act), true);
            Check.due("known at", x.all(1), act);
            for (int no : new int[] {4, -2, Check.LEAST, Check.GREATEST}) {
                Check.due("as " + no, x.as(no), false);
                Check.due("known at still", x.all(1), act);
            }
        }
        x.annul(1);
        Check.due("as of what tells that one is void", x.as(4), true);
        Check.due("known at", x.all(1), 4);
        Check.due("as 5", x.as(5), false);
    }

    private static void knownUpTo() {
        Check.by("as known at act n: acts up to n");
        LeaningTower x = new LeaningTower();
        for (int act = 1; act <= 5; act++) {
            x.pipe(0, 15, 1);
        }
        for (int act = 5; act >= 0; act--) {
            x.as(act);
            Check.due("settled as at " + act, x.settled(15, 1), 50 * act);
            Check.due("works", x.all(3), act);
        }
        for (int act = 0; act <= 5; act++) {
            x.as(act);
            Check.due("settled as at " + act, x.settled(15, 1), 50 * act);
        }
    }

    private static void voidBy() {
        Check.by("as known at act n: that are not void by n");
        LeaningTower x = new LeaningTower();
        x.pipe(0, 15, 1);
        x.pipe(0, 15, 2);
        Check.due("annul", x.annul(1), 3);
        x.pipe(0, 15, 4);
        Check.due("annul", x.annul(4), 5);
        long[] due = {0, 50, 150, 100, 300, 100};
        for (int act = 0; act < due.length; act++) {
            x.as(act);
            Check.due("settled as at " + act, x.settled(15, 1), due[act]);
        }
    }

    private static void voidAlready() {
        Check.by("annul: NONE if there is none such, it is void or tells so");
        LeaningTower x = filled(2);
        Check.due("annul 1", x.annul(1), 3);
        Check.due("it is void", x.annul(1), Check.NONE);
        Check.due("it tells so", x.annul(3), Check.NONE);
        for (int act : new int[] {0, -1, 4, 201, Check.LEAST, Check.GREATEST}) {
            Check.due("none such " + act, x.annul(act), Check.NONE);
        }
        Check.due("acts", x.all(0), 3);
        Check.due("the other", x.right(2), 2);
        Check.due("the other may be", x.annul(2), 4);
        Check.due("void", x.right(2), Check.NO_LEAN);
    }

    private static void voidOfEachKind() {
        Check.by("void: one of these was not so");
        LeaningTower x = new LeaningTower();
        x.lead(160, 0, 0, 399);
        x.pipe(0, 1, 1);
        x.frost(0, 2);
        x.reading(0, 0, 7);
        Check.mandate(x, "stop when all;", 0);
        for (int act = 1; act <= 5; act++) {
            Check.due("annul", x.annul(act), 5 + act);
        }
        Check.due("lead", x.load(0, 399), 0);
        Check.due("pipe", x.settled(1, 1), 0);
        Check.due("frost", x.settled(2, 1), 0);
        Check.due("thaw", x.settled(2, 2), 0);
        Check.due("reading", x.right(4), Check.NO_LEAN);
        Check.due("mandate", x.force(0), Check.NONE);
        Check.due("readings", x.all(2), 0);
        Check.due("works", x.all(3), 0);
    }

    private static void voidWhileLess() {
        Check.by("annul of an act that is not known, and while less is known");
        LeaningTower x = filled(3);
        x.as(1);
        Check.due("not known yet", x.annul(3), 4);
        Check.due("known, and not void by 1", x.annul(1), 5);
        Check.due("right", x.right(1), 1);
        Check.due("void in the book", x.annul(1), Check.NONE);
        x.as(Check.NONE);
        Check.due("right 1", x.right(1), Check.NO_LEAN);
        Check.due("right 3", x.right(3), Check.NO_LEAN);
        Check.due("right 2", x.right(2), 2);
    }

    private static void counts() {
        Check.by("all: of all");
        LeaningTower x = new LeaningTower();
        x.lead(1, 0, 0, 0);
        Check.due("works", x.all(3), 1);
        x.pipe(0, 0, 1);
        Check.due("works", x.all(3), 2);
        x.frost(0, 0);
        Check.due("works", x.all(3), 3);
        x.reading(0, 0, 0);
        Check.due("a reading is no work", x.all(3), 3);
        Check.due("readings", x.all(2), 1);
        x.mandate(0);
        x.annul(3);
        Check.due("nor are a mandate and what tells of a void", x.all(3), 2);
        Check.due("readings", x.all(2), 1);
        Check.due("acts", x.all(0), 6);
        x.as(5);
        Check.due("works known", x.all(3), 3);
        x.as(3);
        Check.due("readings known", x.all(2), 0);
        for (int what : new int[] {-1, 5, Check.LEAST, Check.GREATEST}) {
            Check.due("others", x.all(what), Check.NONE);
        }
    }

    private static void noMandate() {
        Check.by("1: no mandate is in force");
        LeaningTower x = new LeaningTower();
        Check.mandate(x, "allow lead when all;", 5);
        Check.due("ahead of it", x.may(0, 0, 4), 1);
        Check.due("from it on", x.may(0, 0, 5), 0);
        Check.due("on the last day", x.may(0, 0, 399), 0);
        Check.due("on the first day", x.may(0, 0, 0), 1);
        x.annul(1);
        Check.due("void", x.may(0, 0, 5), 1);
    }

    private static void forceOnItsDays() {
        Check.by("in force: from that day or one ahead on, that from the greatest day");
        LeaningTower x = new LeaningTower();
        Check.due("from 399", x.mandate(399), 1);
        Check.due("day 398", x.force(398), Check.NONE);
        Check.due("day 399", x.force(399), 1);
        Check.due("from 0", x.mandate(0), 2);
        Check.due("day 0", x.force(0), 2);
        Check.due("day 398", x.force(398), 2);
        Check.due("day 399", x.force(399), 1);
        Check.due("from 200", x.mandate(200), 3);
        Check.due("day 199", x.force(199), 2);
        Check.due("day 200", x.force(200), 3);
        Check.due("day 398", x.force(398), 3);
        Check.due("day 399", x.force(399), 1);
        Check.due("day -1", x.force(-1), Check.NONE);
        Check.due("day 400", x.force(400), Check.NONE);
    }

    private static void forceOfLikeDays() {
        Check.by("in force: of like ones the last act");
        LeaningTower x = new LeaningTower();
        x.mandate(0);
        x.mandate(0);
        Check.due("of two from day 0", x.force(0), 2);
        x.mandate(7);
        x.mandate(7);
        x.mandate(6);
        Check.due("day 6", x.force(6), 5);
        Check.due("day 7", x.force(7), 4);
        x.annul(4);
        Check.due("day 7", x.force(7), 3);
        x.annul(3);
        Check.due("day 7", x.force(7), 5);
        x.annul(5);
        Check.due("day 7", x.force(7), 2);
    }

    private static void forceAsKnown() {
        Check.by("in force: of the mandates known");
        LeaningTower x = new LeaningTower();
        x.mandate(3);
        x.mandate(5);
        x.annul(2);
        int[] due = {Check.NONE, 1, 2, 1};
        for (int act = 0; act <= 3; act++) {
            x.as(act);
            Check.due("as at " + act, x.force(399), due[act]);
        }
    }

    /** The greatest much of a pipe that may on a day; -1 without. */
    private static int most(LeaningTower x, int day) {
        int most = -1;
        for (int much = 512; much > 0; much /= 2) {
            int next = most + much;
            if (next <= 1000 && x.may(1, next, day) == 0) {
                most = next;
            }
        }
        return most;
    }

    private static void by(LeaningTower x, String sum) {
        Check.other(sum, Check.mandate(x, ALWAYS + sum + ";", 0), Check.NONE);
    }

    private static void leanAhead() {
        Check.by("lean: lean ahead of the day");
        LeaningTower x = new LeaningTower();
        x.pipe(0, 8, 13);
        x.pipe(399, 8, 13);
        by(x, "lean");
        Check.due("day 0", most(x, 0), 0);
        Check.due("day 1", most(x, 1), 477);
        Check.due("day 399", most(x, 399), 477);
        LeaningTower y = new LeaningTower();
        y.pipe(0, 7, 13);
        by(y, "0-lean");
        Check.due("below 0", most(y, 1), 478);
    }

    private static void rateOnDay0() {
        Check.by("rate: 0 on day 0");
        LeaningTower x = new LeaningTower();
        x.pipe(0, 8, 13);
        x.pipe(3, 7, 13);
        x.pipe(398, 8, 13);
        by(x, "500+rate");
        Check.due("day 0", most(x, 0), 500);
        Check.due("day 1", most(x, 1), 977);
        Check.due("day 2", most(x, 2), 500);
        Check.due("day 4", most(x, 4), 500 - 477);
        Check.due("day 399", most(x, 399), 500 + 477);
    }

    private static void rateRoundsNothing() {
        Check.by("rate: how much more that is than ahead of the day before");
        LeaningTower x = new LeaningTower();
        x.pipe(0, 8, 1);
        x.pipe(1, 8, 1);
        // 36.76 and 73.53, rounded down both.
        by(x, "rate");
        Check.due("day 1", most(x, 1), 36);
        Check.due("day 2", most(x, 2), 37);
        Check.due("day 3", most(x, 3), 0);
    }

    private static void worstUpToTheDay() {
        Check.by("worst: the greatest lean there was ahead of a day up to that one");
        LeaningTower x = new LeaningTower();
        x.pipe(1, 8, 13);
        x.pipe(2, 7, 20);
        x.pipe(3, 8, 20);
        x.pipe(4, 8, 1);
        by(x, "worst");
        int[] due = {0, 0, 477, 477, 477, 514};
        for (int day = 0; day < due.length; day++) {
            Check.due("day " + day, most(x, day), due[day]);
        }
        Check.due("day 399", most(x, 399), 514);
        LeaningTower y = new LeaningTower();
        y.pipe(0, 7, 13);
        by(y, "300+worst");
        Check.due("day 0 counts, too", most(y, 399), 300);
    }

    private static void waterAndDay() {
        Check.by("water; the day");
        LeaningTower x = new LeaningTower();
        by(x, "day");
        Check.due("day 0", most(x, 0), 0);
        Check.due("day 399", most(x, 399), 399);
        by(x, "water");
        Check.due("50 without", most(x, 0), 50);
        x.water(399, 0);
        Check.due("day 398", most(x, 398), 50);
        Check.due("day 399", most(x, 399), 0);
        x.water(0, 100);
        Check.due("day 0", most(x, 0), 100);
        Check.due("day 398", most(x, 398), 100);
    }

    private static void tonsOnTheirDays() {
        Check.by("tons of lead that is there");
        LeaningTower x = new LeaningTower();
        x.ring(0, 5000, 0, 0);
        x.lead(100, 0, 0, 0);
        x.lead(10, 0, 3, 5);
        x.lead(1, 0, 5, 399);
        by(x, "tons");
        int[][] due = {{0, 100}, {1, 0}, {2, 0}, {3, 10}, {4, 10}, {5, 11}, {6, 1}, {399, 1}};
        for (int[] row : due) {
            Check.due("day " + row[0], most(x, row[0]), row[1]);
        }
    }

    private static void drawnAhead() {
        Check.by("litres drawn on all days ahead");
        LeaningTower x = new LeaningTower();
        x.pipe(0, 0, 100);
        x.pipe(2, 5, 10);
        x.pipe(2, 15, 1);
        x.pipe(399, 0, 500);
        by(x, "drawn");
        int[][] due = {{0, 0}, {1, 100}, {2, 100}, {3, 111}, {398, 111}, {399, 111}};
        for (int[] row : due) {
            Check.due("day " + row[0], most(x, row[0]), row[1]);
        }
        x.annul(2);
        Check.due("less what is void", most(x, 399), 101);
    }

    private static void loadOfTheDay() {
        Check.by("load of a column");
        LeaningTower x = new LeaningTower();
        x.ring(0, 160, 0, 0);
        x.lead(160, 0, 399, 399);
        x.lead(160, 0, 0, 0);
        for (int column : new int[] {0, 15}) {
            by(x, "load " + column);
            Check.due("day 0", most(x, 0), 20);
            Check.due("day 1", most(x, 1), 10);
            Check.due("day 399", most(x, 399), 20);
        }
    }

    private static void muchAtItsEnds() {
        Check.by("may: of so much (0 .. 1000) on a day (0 .. 399)");
        LeaningTower x = new LeaningTower();
        Check.mandate(x, "allow lead when all;allow pipe when all;allow frost when all;", 0);
        for (int work = 0; work <= 2; work++) {
            for (int day : new int[] {0, 399}) {
                Check.due("0", x.may(work, 0, day), 0);
                Check.due("1000", x.may(work, 1000, day), 0);
                Check.due("-1", x.may(work, -1, day), Check.NONE);
                Check.due("1001", x.may(work, 1001, day), Check.NONE);
            }
            Check.due("day -1", x.may(work, 0, -1), Check.NONE);
            Check.due("day 400", x.may(work, 0, 400), Check.NONE);
        }
        Check.due("work -1", x.may(-1, 0, 0), Check.NONE);
        Check.due("work 3", x.may(3, 0, 0), Check.NONE);
    }

    private static void works() {
        Check.by("a work (0 lead, 1 pipe, 2 frost)");
        String[] words = {"lead", "pipe", "frost"};
        for (int allowed = 0; allowed < 3; allowed++) {
            LeaningTower x = new LeaningTower();
            Check.mandate(x, "allow " + words[allowed] + " when all;limit " + words[allowed] + " 7;", 0);
            for (int work = 0; work < 3; work++) {
                Check.due("allow " + words[allowed] + " " + work, x.may(work, 7, 0), work == allowed ? 0 : 3);
                Check.due("limit " + words[allowed] + " " + work, x.may(work, 8, 0), work == allowed ? 4 : 3);
            }
        }
    }

    private static void noBreaches() {
        Check.by("breach: NONE if there is none such");
        LeaningTower x = new LeaningTower();
        x.reading(0, 0, 0);
        x.mandate(5);
        Check.due("neither readings nor mandates", x.breaches(), 0);
        for (int k : new int[] {0, 1, -1, Check.LEAST, Check.GREATEST}) {
            Check.due("breach " + k, x.breach(k), Check.NONE);
        }
        x.pipe(0, 0, 1);
        Check.due("one", x.breaches(), 1);
        Check.due("breach 0", x.breach(0), 3);
        Check.due("breach 1", x.breach(1), Check.NONE);
        Check.due("breach -1", x.breach(-1), Check.NONE);
        x.annul(3);
        Check.due("void", x.breaches(), 0);
        Check.due("breach 0", x.breach(0), Check.NONE);
    }

    private static int breaches(String text, ToIntFunction<LeaningTower> work) {
        LeaningTower x = new LeaningTower();
        Check.due(text, Check.mandate(x, text, 0), 1);
        Check.due("the work", work.applyAsInt(x), 2);
        return x.breaches();
    }

    private static void breachByItsMuch() {
        Check.by("a work of so much (tons, litres, 1 of frost)");
        Check.due("tons", breaches("allow lead when all;limit lead 7;", x -> x.lead(7, 900, 0, 0)), 0);
        Check.due("tons", breaches("allow lead when all;limit lead 6;", x -> x.lead(7, 0, 0, 0)), 1);
        Check.due("litres", breaches("allow pipe when all;limit pipe 7;", x -> x.pipe(0, 9, 7)), 0);
        Check.due("litres", breaches("allow pipe when all;limit pipe 6;", x -> x.pipe(0, 0, 7)), 1);
        Check.due("1 of frost", breaches("allow frost when all;limit frost 1;", x -> x.frost(0, 9)), 0);
        Check.due("1 of frost", breaches("allow frost when all;limit frost 0;", x -> x.frost(0, 0)), 1);
    }

    private static void breachOnItsFirstDay() {
        Check.by("a breach is a work known that may not on its (first) day");
        String text = "allow lead when day=3;allow pipe when day=3;allow frost when day=3;";
        Check.due("lead from its day", breaches(text, x -> x.lead(1, 0, 3, 399)), 0);
        Check.due("lead from the day ahead", breaches(text, x -> x.lead(1, 0, 2, 3)), 1);
        Check.due("lead from the day behind", breaches(text, x -> x.lead(1, 0, 4, 4)), 1);
        Check.due("pipe", breaches(text, x -> x.pipe(3, 0, 1)), 0);
        Check.due("pipe", breaches(text, x -> x.pipe(4, 0, 1)), 1);
        Check.due("frost", breaches(text, x -> x.frost(3, 0)), 0);
        Check.due("frost", breaches(text, x -> x.frost(2, 0)), 1);
        Check.due("day 0", breaches("allow lead when day=0;", x -> x.lead(1, 0, 0, 399)), 0);
        Check.due("day 399", breaches("allow lead when day=399;", x -> x.lead(1, 0, 399, 399)), 0);
        Check.due("tons count the work itself", breaches("allow lead when tons=0;", x -> x.lead(1, 0, 3, 3)), 1);
        Check.due("drawn does not", breaches("allow pipe when drawn=0;", x -> x.pipe(3, 0, 1)), 0);
    }

    private static void allBreaches() {
        Check.by("the act of the k-th breach (by acts)");
        LeaningTower x = new LeaningTower();
        for (int act = 1; act <= 200; act++) {
            x.pipe(400 - 2 * act < 0 ? 0 : 400 - 2 * act, 0, 1);
        }
        Check.due("200", x.breaches(), 200);
        for (int k = 0; k < 200; k++) {
            Check.due("breach", x.breach(k), k + 1);
        }
        Check.due("breach 200", x.breach(200), Check.NONE);
    }

    private static void breachesAnew() {
        Check.by("breaches of what has been told since");
        LeaningTower x = new LeaningTower();
        x.pipe(1, 0, 1);
        Check.due("without a mandate", x.breaches(), 1);
        Check.mandate(x, "allow pipe when lean<1 and water<51 and load 3<1;", 0);
        Check.due("with one", x.breaches(), 0);
        x.water(1, 51);
        Check.due("by water", x.breaches(), 1);
        x.water(1, 50);
        Check.due("by water", x.breaches(), 0);
        x.ring(0, 16, 0, 0);
        Check.due("by a ring", x.breaches(), 1);
        x.ring(0, 0, 0, 0);
        Check.due("by a ring", x.breaches(), 0);
        x.lead(16, 0, 1, 1);
        Check.due("by lead, and that itself", x.breaches(), 2);
        x.annul(3);
        Check.due("void", x.breaches(), 0);
        x.pipe(0, 15, 1);
        Check.due("by lean", x.breach(0), 1);
        x.as(2);
        Check.due("as known", x.breaches(), 0);
        x.as(1);
        Check.due("as known", x.breaches(), 1);
    }
}

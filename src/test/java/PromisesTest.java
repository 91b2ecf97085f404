/** What each promise of the document says, with answers reckoned by hand. */
public final class PromisesTest {
    private static final int NO_LEAN = Check.NO_LEAN;
    private static final long NO_SETTLED = Check.NO_SETTLED;
    private static final int BILLION = Check.BILLION;

    public static void main(String[] args) {
        newObject();
        feedAndEnd();
        stiff();
        ring();
        stone();
        water();
        warmth();
        gauge();
        lead();
        pipe();
        frost();
        reading();
        mandate();
        faultsOfText();
        faultsOfLength();
        faultsOfNumbersAndCounts();
        faultCall();
        annul();
        as();
        lean();
        settledAndLoad();
        above();
        force();
        may();
        sums();
        facts();
        breaches();
        right();
        fit();
        odd();
        spoon();
        spoonsLeast();
        spoonsOrder();
        spoonsSlack();
        spoonsRefused();
        bursts();
        first();
        causes();
        all();
        full();
        behindTheLastCall();
        Check.end("PromisesTest");
    }

    private static void due(String what, long got, long want) {
        Check.due(what, got, want);
    }

    private static void due(String what, boolean got, boolean want) {
        Check.due(what, got, want);
    }

    private static int mandate(LeaningTower x, String text, int day) {
        return Check.mandate(x, text, day);
    }

    private static void good(String text) {
        LeaningTower x = new LeaningTower();
        due(text, mandate(x, text, 0), 1);
        due(text + " fault", x.fault(0), 0);
        due(text + " place", x.fault(1), -1);
    }

    private static void bad(String text, int fault, int place) {
        LeaningTower x = new LeaningTower();
        due(text, mandate(x, text, 0), -1);
        due(text + " fault", x.fault(0), fault);
        due(text + " place", x.fault(1), place);
        due(text + " acts", x.all(0), 0);
    }

    private static void newObject() {
        Check.by("1");
        LeaningTower x = new LeaningTower();
        for (int what = 0; what <= 4; what++) {
            due("all", x.all(what), 0);
        }
        due("lean", x.lean(400), 0);
        due("settled", x.settled(0, 400), 0);
        due("load", x.load(0, 0), 0);
        due("tape", x.end(1), false);
        due("spoons", x.spoons(0, 8, 0, 0), 0);
        due("spoons below", x.spoons(0, 8, -1, 0), -1);
        due("force", x.force(0), -1);
        due("sets", x.sets(0), 1);
        due("NONE", LeaningTower.NONE, -1);
        x.ring(0, 1000, 0, 0);
        due("stiff 100, water 50", x.settled(3, 1), 9);
        x.reading(0, 7, 5);
        due("noise 1000", x.fit(7, 7, true) - x.fit(7, 7, false), 2000);
        due("no sun, no drift", x.right(1), 5);
        LeaningTower y = new LeaningTower();
        y.ring(7, 1000, 0, 0);
        due("bears 1000000", y.bursts(7, 0), 0);
        y.ring(7, 1001, 0, 0);
        due("bears 1000000", y.bursts(7, 0), 1);
        LeaningTower z = new LeaningTower();
        z.ring(7, 100, 0, 500);
        z.stone(6, 1, 100000 + 50000 - 1);
        due("wide 1", z.bursts(6, 0), 1);
        z = new LeaningTower();
        z.ring(7, 953, 0, 500);
        due("wide 10: 953000 and 47650", z.bursts(6, 0), 1);
        z.ring(7, 952, 0, 500);
        due("wide 10: 952000 and 47600", z.bursts(6, 0), 0);
    }

    private static void feedAndEnd() {
        Check.by("2, 3");
        LeaningTower x = new LeaningTower();
        for (int i = 1; i <= 40; i++) {
            due("feed", x.feed(i, i, i, i, i), 20 * i);
        }
        due("feed of the 41st", x.feed(0, 0, 0, 0, 0), -1);
        due("end 801", x.end(801), false);
        due("end -1", x.end(-1), false);
        due("end 800", x.end(800), true);
        due("end 781", x.end(781), true);
        due("feed to 801", x.feed(0, 0, 0, 0, 0), -1);
        due("end 782", x.end(782), false);
        due("end 780", x.end(780), true);
        due("feed to 800", x.feed(0, 0, 0, 0, 0), 800);
        due("end least", x.end(Integer.MIN_VALUE), false);
        due("end 0", x.end(0), true);
        due("end 1", x.end(1), false);
        due("feed anew", x.feed(-1, -1, -1, -1, -1), 20);
        x.end(0);
        // "stop when all;" by hand, the highest byte first: 's' 't' 'o' 'p' is 0x73746f70.
        due("feed", x.feed(0x73746f70, 0x20776865, 0x6e20616c, 0x6c3b2020, 0x0a0a2020), 20);
        due("mandate", x.mandate(0), 1);
        due("may", x.may(0, 1, 0), 2);
        due("the tape went", x.end(1), false);
    }

    private static void stiff() {
        Check.by("4");
        LeaningTower x = new LeaningTower();
        x.ring(0, 1000, 0, 0);
        due("settled", x.settled(3, 1), 9);
        due("stiff", x.stiff(3, 10), true);
        due("settled", x.settled(3, 1), 93);
        due("settled of others", x.settled(4, 1), 9);
        due("stiff 0", x.stiff(3, 0), false);
        due("stiff 1001", x.stiff(3, 1001), false);
        due("stiff column 16", x.stiff(16, 10), false);
        due("stiff column -1", x.stiff(-1, 10), false);
        due("settled", x.settled(3, 1), 93);
        due("stiff 1", x.stiff(0, 1), true);
        due("settled", x.settled(0, 1), 930);
        due("stiff 1000", x.stiff(15, 1000), true);
        due("settled", x.settled(15, 100), 0);
    }

    private static void ring() {
        Check.by("5");
        LeaningTower x = new LeaningTower();
        due("ring", x.ring(0, 1000, 0, 100), true);
        due("load", x.load(15, 0), 64);
        due("load", x.load(0, 0), 60);
        due("ring -1", x.ring(-1, 0, 0, 0), false);
        due("ring 8", x.ring(8, 0, 0, 0), false);
        due("tons -1", x.ring(0, -1, 0, 0), false);
        due("tons 5001", x.ring(0, 5001, 0, 0), false);
        due("high -1", x.ring(0, 0, -1, 0), false);
        due("high 101", x.ring(0, 0, 101, 0), false);
        due("curve -501", x.ring(0, 0, 0, -501), false);
        due("curve 501", x.ring(0, 0, 0, 501), false);
        due("load", x.load(15, 0), 64);
        due("greatest", x.ring(7, 5000, 100, 500), true);
        due("least", x.ring(0, 0, 0, -500), true);
        due("load", x.load(15, 0), (5000 * 42500 + 2500000 * 15) / 680000);
        // The overhang by the lean ahead of the day, rounded down: 100 times -552 thousandths is -55.2, so -56.
        LeaningTower y = new LeaningTower();
        y.ring(2, 1000, 100, 0);
        y.pipe(0, 0, 1000);
        due("lean", y.lean(1), -551471);
        due("load", y.load(15, 1), (1000 * 42500 - 1000 * 56 * 15) / 680000);
        due("load", y.load(0, 1), (1000 * 42500 + 1000 * 56 * 15) / 680000);
        due("load of day 0", y.load(0, 0), 62);
    }

    private static void stone() {
        Check.by("6");
        LeaningTower x = new LeaningTower();
        x.ring(3, 10, 0, 0);
        due("stone", x.stone(3, 1, 9999), true);
        due("bursts", x.bursts(3, 0), 1);
        due("stone", x.stone(3, 100, 10000), true);
        due("bursts", x.bursts(3, 0), 0);
        due("ring -1", x.stone(-1, 1, 0), false);
        due("ring 8", x.stone(8, 1, 0), false);
        due("wide 0", x.stone(3, 0, 0), false);
        due("wide 101", x.stone(3, 101, 0), false);
        due("bears -1", x.stone(3, 1, -1), false);
        due("bears 1000001", x.stone(3, 1, 1000001), false);
        due("bursts", x.bursts(3, 0), 0);
        due("least", x.stone(3, 1, 0), true);
        due("greatest", x.stone(3, 100, 1000000), true);
    }

    private static void water() {
        Check.by("7");
        LeaningTower x = new LeaningTower();
        x.ring(0, 1000, 0, 0);
        due("water", x.water(2, 100), true);
        due("50 without", x.settled(0, 2), 18);
        due("then 100", x.settled(0, 4), 42);
        due("water", x.water(4, 0), true);
        due("then 0", x.settled(0, 6), 54);
        due("water told anew", x.water(2, 0), true);
        due("then 0", x.settled(0, 6), 42);
        due("ahead of a day told", x.water(0, 0), true);
        due("settled", x.settled(0, 6), 36);
        due("day -1", x.water(-1, 0), false);
        due("day 400", x.water(400, 0), false);
        due("n -1", x.water(0, -1), false);
        due("n 101", x.water(0, 101), false);
        due("day 399", x.water(399, 100), true);
        due("settled", x.settled(0, 400) - x.settled(0, 399), 12);
    }

    private static void warmth() {
        Check.by("8");
        LeaningTower x = new LeaningTower();
        x.gauge(0, 100, 0, 0);
        for (int day = 0; day < 6; day++) {
            x.reading(0, day, 0);
        }
        due("warmth", x.warmth(2, -20), true);
        due("warmth", x.warmth(4, 50), true);
        due("0 without", x.right(2), 0);
        due("as told", x.right(3), 2000);
        due("of the nearest ahead", x.right(4), 2000);
        due("as told", x.right(5), -5000);
        due("of the nearest ahead", x.right(6), -5000);
        due("told ahead", x.warmth(1, 1), true);
        due("that one", x.right(2), -100);
        due("not that", x.right(3), 2000);
        due("n -21", x.warmth(0, -21), false);
        due("n 51", x.warmth(0, 51), false);
        due("day -1", x.warmth(-1, 0), false);
        due("day 400", x.warmth(400, 0), false);
        due("day 399", x.warmth(399, 0), true);
    }

    private static void gauge() {
        Check.by("9");
        LeaningTower x = new LeaningTower();
        x.warmth(0, 3);
        x.reading(3, 5, 100);
        due("gauge", x.gauge(3, 7, -2, 11), true);
        due("right", x.right(1), 100 - 21 + 10);
        due("lower", x.fit(5, 5, false), 89 - 11);
        due("upper", x.fit(5, 5, true), 89 + 11);
        due("gauge -1", x.gauge(-1, 0, 0, 0), false);
        due("gauge 4", x.gauge(4, 0, 0, 0), false);
        due("sun -101", x.gauge(3, -101, 0, 0), false);
        due("sun 101", x.gauge(3, 101, 0, 0), false);
        due("drift -1001", x.gauge(3, 0, -1001, 0), false);
        due("drift 1001", x.gauge(3, 0, 1001, 0), false);
        due("noise -1", x.gauge(3, 0, 0, -1), false);
        due("noise 1000001", x.gauge(3, 0, 0, 1000001), false);
        due("right", x.right(1), 89);
        due("least", x.gauge(0, -100, -1000, 0), true);
        due("greatest", x.gauge(0, 100, 1000, 1000000), true);
    }

    private static void lead() {
        Check.by("10");
        LeaningTower x = new LeaningTower();
        due("lead", x.lead(1000, 20000, 2, 3), 1);
        due("ahead of it", x.load(15, 1), 0);
        due("first day", x.load(15, 2), 503);
        due("last day", x.load(15, 3), 503);
        due("behind it", x.load(15, 4), 0);
        due("load is 0 at least", x.load(0, 2), 0);
        due("tons 0", x.lead(0, 0, 0, 0), -1);
        due("tons 1001", x.lead(1001, 0, 0, 0), -1);
        due("arm -20001", x.lead(1, -20001, 0, 0), -1);
        due("arm 20001", x.lead(1, 20001, 0, 0), -1);
        due("from -1", x.lead(1, 0, -1, 0), -1);
        due("to 400", x.lead(1, 0, 0, 400), -1);
        due("wrong order", x.lead(1, 0, 4, 3), -1);
        due("least", x.lead(1, -20000, 0, 399), 2);
        due("greatest", x.lead(1000, 20000, 399, 399), 3);
        due("acts", x.all(0), 3);
    }

    private static void pipe() {
        Check.by("11");
        LeaningTower x = new LeaningTower();
        due("pipe", x.pipe(2, 3, 7), 1);
        due("ahead of the day", x.settled(3, 2), 0);
        due("behind it", x.settled(3, 3), 350);
        due("later", x.settled(3, 400), 350);
        due("another column", x.settled(4, 3), 0);
        due("two of a day", x.pipe(2, 3, 1), 2);
        due("together", x.settled(3, 3), 400);
        due("day -1", x.pipe(-1, 0, 1), -1);
        due("day 400", x.pipe(400, 0, 1), -1);
        due("column -1", x.pipe(0, -1, 1), -1);
        due("column 16", x.pipe(0, 16, 1), -1);
        due("litres 0", x.pipe(0, 0, 0), -1);
        due("litres 1001", x.pipe(0, 0, 1001), -1);
        due("greatest", x.pipe(399, 15, 1000), 3);
        due("settled", x.settled(15, 400), 50000);
    }

    private static void frost() {
        Check.by("12");
        LeaningTower x = new LeaningTower();
        due("frost", x.frost(2, 3), 1);
        due("ahead of the day", x.settled(3, 2), 0);
        due("heaved", x.settled(3, 3), -2000);
        due("thawed", x.settled(3, 4), 1000);
        due("later", x.settled(3, 400), 1000);
        due("frost", x.frost(3, 3), 2);
        due("thawed and heaved", x.settled(3, 4), -1000);
        due("thawed", x.settled(3, 5), 2000);
        due("two of a day", x.frost(2, 3), 3);
        due("heaved twice", x.settled(3, 3), -4000);
        due("day -1", x.frost(-1, 0), -1);
        due("day 400", x.frost(400, 0), -1);
        due("column -1", x.frost(0, -1), -1);
        due("column 16", x.frost(0, 16), -1);
        due("last day", x.frost(399, 15), 4);
        due("settled", x.settled(15, 400), -2000);
    }

    private static void reading() {
        Check.by("13");
        LeaningTower x = new LeaningTower();
        due("reading", x.reading(0, 0, -BILLION), 1);
        due("reading", x.reading(3, 399, BILLION), 2);
        due("right", x.right(1), -BILLION);
        due("right", x.right(2), BILLION);
        due("gauge -1", x.reading(-1, 0, 0), -1);
        due("gauge 4", x.reading(4, 0, 0), -1);
        due("day -1", x.reading(0, -1, 0), -1);
        due("day 400", x.reading(0, 400, 0), -1);
        due("n below", x.reading(0, 0, -BILLION - 1), -1);
        due("n above", x.reading(0, 0, BILLION + 1), -1);
        due("readings", x.all(2), 2);
    }

    private static void mandate() {
        Check.by("14");
        LeaningTower x = new LeaningTower();
        due("empty text", x.mandate(0), 1);
        due("refused text", mandate(x, "stop", 0), -1);
        due("it goes, refused or not", x.end(1), false);
        due("empty text", x.mandate(399), 2);
        Check.tape(x, "stop when all;");
        due("day 400", x.mandate(400), -2);
        due("it goes", x.end(1), false);
        due("day -1", x.mandate(-1), -2);
        due("acts", x.all(0), 2);
        good("");
        good("  \n ");
        good("stop when all;");
        good("stop\nwhen\nall\n;\n");
        good("stop when all;limit pipe 5;allow lead when not all;");
        good("allow frost when[all]and not not[not all or all];");
        good("stop when lean<rate or worst>water and day=tons;");
        good("limit lead drawn+load 0-load 15*(1)/min(2,3)+max((4),5);");
        good("limit pipe 9999999;limit frost 0000001;");
        good("limit pipe((((((((1))))))));");
        good("stop when[[[[[[[[all]]]]]]]];");
        good("stop when [(min(max(1,2),3))=1]and((((((((2))))))))=2;");
        good("stop when load 0000015>1;");
    }

    private static void faultsOfText() {
        Check.by("14, 15: fault 1");
        bad("x", 1, 0);
        bad("  sto when all;", 1, 2);
        bad("stop", 1, 4);
        bad("stop  \n", 1, 7);
        bad("stop when", 1, 9);
        bad("stop when all", 1, 13);
        bad("stop when all ", 1, 14);
        bad("stop all;", 1, 5);
        bad("stop lead when all;", 1, 5);
        bad("allow when all;", 1, 6);
        bad("allow lead all;", 1, 11);
        bad("allow stop when all;", 1, 6);
        bad("limit lead;", 1, 10);
        bad("limit lead when 5;", 1, 11);
        bad("limit lead 5", 1, 12);
        bad("limit lead 5,", 1, 12);
        bad("limit lead -5;", 1, 11);
        bad("limit lead 5 5;", 1, 13);
        bad("limit lead all;", 1, 11);
        bad("limit lead lead;", 1, 11);
        bad("stop when 5;", 1, 11);
        bad("stop when 5<6<7;", 1, 13);
        bad("stop when [5<6;", 1, 14);
        bad("stop when (5<6);", 1, 12);
        bad("stop when [5]<6;", 1, 12);
        bad("stop when all];", 1, 13);
        bad("stop when ]all];", 1, 10);
        bad("stop when [all[;", 1, 14);
        bad("stop when [all,;", 1, 14);
        bad("stop when [all);", 1, 14);
        bad("limit lead (1];", 1, 13);
        bad("limit lead )1);", 1, 11);
        bad("limit lead min(1]2);", 1, 16);
        bad("limit lead min[1,2];", 1, 14);
        bad("stop when all and;", 1, 17);
        bad("stop when not;", 1, 13);
        bad("stop when all or or all;", 1, 17);
        bad("stop when all not all;", 1, 14);
        bad("stop when all=all;", 1, 13);
        bad("limit lead min(1);", 1, 16);
        bad("limit lead min 1,2;", 1, 15);
        bad("limit lead max(1,2;", 1, 18);
        bad("limit lead max(1,2,3);", 1, 18);
        bad("limit lead (1;", 1, 13);
        bad("limit lead load;", 1, 15);
        bad("limit lead load day;", 1, 16);
        bad("limit lead load(1);", 1, 15);
        bad(";", 1, 0);
        bad("stop when all;;", 1, 14);
        bad("Stop when all;", 1, 0);
        bad("stop when\tall;", 1, 9);
        bad("stoP when all;", 1, 0);
        bad("stop when all\r;", 1, 13);
        bad("stop when all" + (char) 160 + ";", 1, 13);
        bad("stop when all;" + (char) 255, 1, 14);
        bad("limit lead 1" + (char) 0 + ";", 1, 12);
        bad("limit lead 1.5;", 1, 12);
        bad("stop when lean ! 5;", 1, 15);
        Check.by("14, 15: words and numbers side by side");
        bad("limit lead load5;", 1, 15);
        bad("limit lead 5when;", 1, 12);
        bad("stop when lean>5and all;", 1, 16);
        bad("stop when 5<6or all;", 1, 13);
        bad("stop when all5;", 1, 13);
        bad("limit lead5;", 1, 10);
        bad("limit lead load16;", 1, 15);
        bad("5stop when all;", 1, 0);
        bad("foo5;", 1, 0);
        good("stop when 5<6 or(5)=5;");
    }

    private static void faultsOfLength() {
        Check.by("14, 15: the 9th letter, the 8th digit");
        bad("abcdefghi", 1, 8);
        bad("abcdefgh", 1, 0);
        bad("abcdefghijkl when all;", 1, 8);
        bad("allowlead when all;", 1, 8);
        bad("stop when abcdefghij;", 1, 18);
        bad("stop when lean abcdefghij;", 1, 23);
        bad("limit lead 12345678;", 1, 18);
        bad("limit lead 1234567;stop when all all;", 1, 33);
        bad("limit lead 00000001;", 1, 18);
        bad("limit 12345678;", 1, 13);
        bad("12345678", 1, 7);
        bad("1234567", 1, 0);
        bad("limit lead load 12345678;", 1, 23);
        // What stood on the tape behind its end is no part of the text.
        LeaningTower x = new LeaningTower();
        x.feed(0x61626364, 0x65666768, 0x696a6b6c, 0x6d6e6f70, 0x71727374);
        x.end(8);
        due("abcdefgh, cut", x.mandate(0), -1);
        due("abcdefgh, cut", x.fault(1), 0);
        x.feed(0x31323334, 0x35363738, 0x39303132, 0x33343536, 0x37383930);
        x.end(7);
        due("1234567, cut", x.mandate(0), -1);
        due("1234567, cut", x.fault(1), 0);
        x.feed(0x73746f70, 0x20776865, 0x6e20616c, 0x6c3b2020, 0x31323334);
        x.end(14);
        due("stop when all; cut", x.mandate(0), 1);
    }

    private static String times(String what, int n) {
        StringBuilder text = new StringBuilder();
        for (int i = 0; i < n; i++) {
            text.append(what);
        }
        return text.toString();
    }

    private static void faultsOfNumbersAndCounts() {
        Check.by("14, 15: fault 4");
        bad("limit lead load 16;", 4, 16);
        bad("limit lead load 9999999;", 4, 16);
        bad("limit lead load\n 0016x", 4, 17);
        good("limit lead load 15;");
        Check.by("14, 15: fault 5");
        String statement = "limit pipe 1;";
        good(times(statement, 20));
        good(times(statement, 20) + " \n");
        bad(times(statement, 21), 5, 260);
        bad(times(statement, 20) + "  x", 5, 262);
        bad(times(statement, 20) + "\n;", 5, 261);
        bad(times(statement, 20) + "abcdefghijk", 5, 260);
        bad(times(statement, 20) + (char) 200, 5, 260);
        bad(times(statement, 19) + "limit pipe 1" + " x", 1, 260);
        bad("limit pipe " + times("(", 9) + "1" + times(")", 9) + ";", 5, 19);
        bad("stop when " + times("[", 9) + "all" + times("]", 9) + ";", 5, 18);
        bad("stop when " + times("[", 5) + times("(", 4) + "1", 5, 18);
        bad("stop when " + times("[", 8) + "min(1,2)", 5, 21);
        bad("stop when " + times("[", 8) + "max 1", 1, 22);
        good("limit pipe " + times("min(", 8) + "1" + times(",2)", 8) + ";");
        good("limit pipe " + times("max(1,", 8) + "1" + times(")", 8) + ";");
        bad("limit pipe " + times("min(", 9) + "1", 5, 11 + 4 * 8 + 3);
        bad("limit pipe " + times("max(1,", 9) + "1", 5, 11 + 6 * 8 + 3);
        good("limit pipe min(" + times("(", 7) + "1" + times(")", 7) + ",1)*" + times("(", 8) + "1"
                + times(")", 8) + ";");
        bad("limit pipe " + times("(", 8) + "1(", 1, 20);
        good("limit pipe " + times("(", 8) + "1" + times(")", 8) + "+" + times("(", 8) + "1" + times(")", 8) + ";");
        good("stop when " + times("not ", 150) + "all;");
    }

    private static void faultCall() {
        Check.by("15");
        LeaningTower x = new LeaningTower();
        due("ahead of any", x.fault(0), 0);
        due("ahead of any", x.fault(1), -1);
        due("another", x.fault(2), -1);
        due("another", x.fault(-1), -1);
        mandate(x, "stop when all", 0);
        due("fault", x.fault(0), 1);
        due("place", x.fault(1), 13);
        due("another", x.fault(2), -1);
        mandate(x, "stop when all;", -1);
        due("no text was read", x.fault(0), 1);
        due("no text was read", x.fault(1), 13);
        mandate(x, "stop when all;", 0);
        due("without", x.fault(0), 0);
        due("without", x.fault(1), -1);
    }

    private static void annul() {
        Check.by("16");
        LeaningTower x = new LeaningTower();
        x.pipe(0, 15, 1000);
        x.lead(500, 3, 0, 399);
        due("lean", x.lean(1), 551470);
        due("annul", x.annul(1), 3);
        due("lean", x.lean(1), 0);
        due("works", x.all(3), 1);
        due("void already", x.annul(1), -1);
        due("tells so", x.annul(3), -1);
        due("none such", x.annul(4), -1);
        due("none such", x.annul(0), -1);
        due("none such", x.annul(-1), -1);
        due("the lead", x.annul(2), 4);
        due("load", x.load(0, 5), 0);
        mandate(x, "stop when all;", 0);
        due("force", x.force(0), 5);
        due("a mandate", x.annul(5), 6);
        due("force", x.force(0), -1);
        x.reading(0, 0, 1);
        due("a reading", x.annul(7), 8);
        due("right", x.right(7), NO_LEAN);
        x.frost(0, 0);
        due("frost", x.annul(9), 10);
        due("settled", x.settled(0, 1), 0);
        due("ahead of it", x.as(9), true);
        due("settled", x.settled(0, 1), -2000);
        due("void in the book, if not as known", x.annul(9), -1);
    }

    private static void as() {
        Check.by("17");
        LeaningTower x = new LeaningTower();
        due("as 1 of none", x.as(1), false);
        due("as 0", x.as(0), true);
        due("pipe", x.pipe(0, 15, 1000), 1);
        due("not known", x.lean(1), 0);
        due("known at", x.all(1), 0);
        due("always the last", x.as(-1), true);
        due("known", x.lean(1), 551470);
        due("annul", x.annul(1), 2);
        due("pipe", x.pipe(0, 0, 1000), 3);
        due("last", x.lean(1), -551471);
        due("as 1", x.as(1), true);
        due("ahead of the void", x.lean(1), 551470);
        due("as 2", x.as(2), true);
        due("void", x.lean(1), 0);
        due("none such", x.as(4), false);
        due("none such", x.as(-2), false);
        due("still 2", x.all(1), 2);
        due("frost", x.frost(0, 3), 4);
        due("still 2", x.all(1), 2);
        due("unknown", x.settled(3, 1), 0);
        due("as 4", x.as(4), true);
        due("known", x.settled(3, 1), -2000);
        due("annul", x.annul(4), 5);
        due("void later", x.settled(3, 1), -2000);
        due("as the last", x.as(-1), true);
        due("known at", x.all(1), 5);
        due("void", x.settled(3, 1), 0);
    }

    private static void lean() {
        Check.by("18");
        LeaningTower x = new LeaningTower();
        x.pipe(0, 15, 1000);
        due("day 0", x.lean(0), 0);
        due("day 1", x.lean(1), 551470);
        due("day 400", x.lean(400), 551470);
        due("day 401", x.lean(401), NO_LEAN);
        due("day -1", x.lean(-1), NO_LEAN);
        x = new LeaningTower();
        x.water(0, 100);
        for (int i = 0; i < 16; i++) {
            x.ring(i, 5000, 100, 500);
            x.stiff(i, 1);
        }
        due("not above a thousand millions", x.lean(400), BILLION);
        due("settled goes on", x.settled(15, 400) > x.settled(15, 399), true);
        for (int i = 0; i < 8; i++) {
            x.ring(i, 5000, 100, -500);
        }
        due("not below", x.lean(400), -BILLION);
    }

    private static void settledAndLoad() {
        Check.by("19, 20");
        LeaningTower x = new LeaningTower();
        x.ring(0, 1000, 0, 0);
        due("settled", x.settled(0, 0), 0);
        due("settled", x.settled(15, 400), 3600);
        due("day 401", x.settled(0, 401), NO_SETTLED);
        due("day -1", x.settled(0, -1), NO_SETTLED);
        due("column -1", x.settled(-1, 0), NO_SETTLED);
        due("column 16", x.settled(16, 0), NO_SETTLED);
        due("load", x.load(0, 399), 62);
        due("day 400", x.load(0, 400), -1);
        due("day -1", x.load(0, -1), -1);
        due("column -1", x.load(-1, 0), -1);
        due("column 16", x.load(16, 0), -1);
    }

    private static void above() {
        Check.by("21");
        LeaningTower x = new LeaningTower();
        due("never", x.above(0), -1);
        due("from the first day", x.above(-1), 0);
        x.pipe(5, 15, 1000);
        due("above", x.above(0), 6);
        due("above", x.above(551469), 6);
        due("not above", x.above(551470), -1);
        x.pipe(399, 15, 1000);
        due("the last day", x.above(551470), 400);
        due("least", x.above(Integer.MIN_VALUE), 0);
        due("greatest", x.above(Integer.MAX_VALUE), -1);
    }

    private static void force() {
        Check.by("22");
        LeaningTower x = new LeaningTower();
        due("none", x.force(0), -1);
        due("mandate", x.mandate(10), 1);
        due("mandate", x.mandate(5), 2);
        due("mandate", x.mandate(10), 3);
        due("ahead of all", x.force(4), -1);
        due("day 5", x.force(5), 2);
        due("day 9", x.force(9), 2);
        due("of like ones the last", x.force(10), 3);
        due("day 399", x.force(399), 3);
        due("day 400", x.force(400), -1);
        due("day -1", x.force(-1), -1);
        x.annul(3);
        due("void", x.force(10), 1);
        x.as(0);
        due("not known", x.force(10), -1);
    }

    private static void may() {
        Check.by("23");
        LeaningTower x = new LeaningTower();
        due("no mandate", x.may(0, 1, 0), 1);
        mandate(x, "", 0);
        due("not allowed", x.may(0, 1, 0), 3);
        mandate(x, "allow lead when all;allow pipe when not all;limit lead 5;limit lead 3;limit frost 0;", 0);
        due("it may", x.may(0, 3, 0), 0);
        due("more than any limit", x.may(0, 4, 0), 4);
        due("more than both", x.may(0, 6, 0), 4);
        due("none holds", x.may(1, 1, 0), 3);
        due("not allowed, ahead of the limit", x.may(2, 1, 0), 3);
        mandate(x, "allow lead when not all;limit lead 0;allow lead when all;stop when day=1;stop when day>2;", 0);
        due("some allow", x.may(0, 0, 0), 0);
        due("limit", x.may(0, 1, 0), 4);
        due("stop is the least", x.may(0, 1, 1), 2);
        due("no stop", x.may(0, 0, 2), 0);
        due("another stop", x.may(1, 0, 3), 2);
        due("work 3", x.may(3, 0, 0), -1);
        due("work -1", x.may(-1, 0, 0), -1);
        due("much -1", x.may(0, -1, 0), -1);
        due("much 1001", x.may(0, 1001, 0), -1);
        due("much 1000", x.may(0, 1000, 0), 4);
        due("day -1", x.may(0, 0, -1), -1);
        due("day 400", x.may(0, 0, 400), -1);
        due("day 399", x.may(0, 0, 399), 2);
    }

    private static void holds(String test, boolean want) {
        LeaningTower x = new LeaningTower();
        x.ring(0, 1000, 0, 100);
        due(test, mandate(x, "stop when " + test + ";", 0), 1);
        due(test, x.may(0, 0, 0), want ? 2 : 3);
    }

    private static void sums() {
        Check.by("23: tests and sums");
        holds("all", true);
        holds("not all", false);
        holds("not not all", true);
        holds("not not not all", false);
        holds("all or all and not all", true);
        holds("[all or all] and not all", false);
        holds("not all and not all or all", true);
        holds("not 1>2", true);
        holds("1<2", true);
        holds("2<2", false);
        holds("2>2", false);
        holds("3>2", true);
        holds("2=2", true);
        holds("2=3", false);
        holds("10-3-2=5", true);
        holds("2+3*4=14", true);
        holds("(2+3)*4=20", true);
        holds("100/7/2=7", true);
        holds("100/7*7=98", true);
        holds("7*100/8=87", true);
        holds("(0-7)/2=0-4", true);
        holds("7/(0-2)=0-4", true);
        holds("(0-7)/(0-2)=3", true);
        holds("5/0=0", true);
        holds("(0-5)/0=0", true);
        holds("min(3,2)=2 and min(2,3)=2", true);
        holds("max(3,2)=3 and max(2,3)=3", true);
        holds("min(0-1,max(1,2)*3)=0-1", true);
        holds("1000000*1000000=9999999*9999999", true);
        holds("1000000*1000000-1=9999999*9999999-1", true);
        holds("1000000*999999=9999999*9999999", false);
        holds("9999999*9999999*9999999*9999999=1000000*1000000", true);
        holds("9999999*9999999+1=1000000*1000000", true);
        holds("0-9999999*9999999-5=0-1000000*1000000", true);
        holds("(0-9999999)*9999999=0-1000000*1000000", true);
        holds("(0-9999999)*9999999*(0-9999999)*9999999=1000000*1000000", true);
        holds("9999999*9999999*0=0", true);
        holds("1000000*1000000/3*3=1000000*1000000-1", true);
        holds("(0-1000000*1000000/3)*3=1-1000000*1000000", true);
        holds("load 15=64 and load 0=60", true);
        holds("load 15 > load 0", true);
    }

    private static void facts() {
        Check.by("23: facts of a day");
        LeaningTower x = new LeaningTower();
        x.pipe(0, 15, 1000);
        x.pipe(1, 0, 300);
        x.pipe(2, 0, 600);
        x.lead(7, 0, 1, 2);
        x.lead(5, 0, 2, 3);
        x.water(2, 77);
        String always = "allow pipe when all;limit pipe ";
        mandate(x, always + "lean/1000;", 0);
        due("lean 0", x.may(1, 1, 0), 4);
        due("lean 551", x.may(1, 551, 1), 0);
        due("lean 551", x.may(1, 552, 1), 4);
        due("lean 386", x.may(1, 386, 2), 0);
        due("lean 386", x.may(1, 387, 2), 4);
        mandate(x, always + "0-rate/1000;", 0);
        due("rate 0", x.may(1, 1, 0), 4);
        // From 551470 to 386029 and from there to 55147 are -165441 and -330882, both rounded down.
        due("rate -166", x.may(1, 166, 2), 0);
        due("rate -166", x.may(1, 167, 2), 4);
        due("rate -331", x.may(1, 331, 3), 0);
        due("rate -331", x.may(1, 332, 3), 4);
        mandate(x, always + "rate/1000;", 0);
        due("rate 551", x.may(1, 551, 1), 0);
        due("rate 551", x.may(1, 552, 1), 4);
        mandate(x, always + "worst/1000;", 0);
        due("worst 0", x.may(1, 1, 0), 4);
        due("worst", x.may(1, 551, 1), 0);
        due("worst", x.may(1, 551, 3), 0);
        due("worst", x.may(1, 552, 3), 4);
        mandate(x, always + "water+100*day;", 0);
        due("water 50", x.may(1, 50, 0), 0);
        due("water 50", x.may(1, 51, 0), 4);
        due("water 77", x.may(1, 377, 3), 0);
        due("water 77", x.may(1, 378, 3), 4);
        mandate(x, always + "100*tons;", 0);
        due("tons", x.may(1, 1, 0), 4);
        due("tons 7", x.may(1, 700, 1), 0);
        due("tons 7", x.may(1, 701, 1), 4);
        due("tons 12", x.may(1, 1000, 2), 0);
        due("tons 5", x.may(1, 501, 3), 4);
        mandate(x, always + "drawn/2;", 0);
        due("drawn 0", x.may(1, 1, 0), 4);
        due("drawn 1000", x.may(1, 500, 1), 0);
        due("drawn 1000", x.may(1, 501, 1), 4);
        due("drawn 1300", x.may(1, 651, 2), 4);
        due("drawn 1900", x.may(1, 950, 3), 0);
        due("drawn 1900", x.may(1, 951, 3), 4);
        x.annul(3);
        due("drawn 1300", x.may(1, 651, 3), 4);
        LeaningTower y = new LeaningTower();
        y.pipe(0, 0, 1000);
        mandate(y, "stop when worst<0;stop when day=1 and lean<0-551470;", 0);
        due("worst is of all days, of day 0, too", y.may(0, 0, 2), 3);
        due("lean of the day", y.may(0, 0, 1), 2);
    }

    private static void breaches() {
        Check.by("24, 25");
        LeaningTower x = new LeaningTower();
        x.pipe(5, 0, 10);
        due("no mandate", x.breaches(), 1);
        due("breach", x.breach(0), 1);
        mandate(x, "allow pipe when all;limit pipe 10;allow lead when day=3;limit lead 7;", 0);
        due("none", x.breaches(), 0);
        due("none", x.breach(0), -1);
        x.pipe(5, 0, 11);
        x.lead(7, 0, 3, 9);
        x.lead(7, 0, 4, 9);
        x.lead(8, 0, 3, 3);
        x.frost(3, 0);
        due("breaches", x.breaches(), 4);
        due("breach 0", x.breach(0), 3);
        due("breach 1", x.breach(1), 5);
        due("breach 2", x.breach(2), 6);
        due("breach 3", x.breach(3), 7);
        due("breach 4", x.breach(4), -1);
        due("breach -1", x.breach(-1), -1);
        due("void", x.annul(3), 8);
        due("breaches", x.breaches(), 3);
        x.as(3);
        due("as known", x.breaches(), 1);
        due("as known", x.breach(0), 3);
        x.as(1);
        due("as known", x.breach(0), 1);
        x.as(0);
        due("as known", x.breaches(), 0);
        // What stands in the tower and the water changes what is a breach.
        LeaningTower y = new LeaningTower();
        mandate(y, "allow frost when load 3=0 and water=50;limit frost 1;", 0);
        y.frost(3, 0);
        due("none", y.breaches(), 0);
        y.ring(0, 1000, 0, 0);
        due("by load", y.breaches(), 1);
        y.ring(0, 0, 0, 0);
        due("none", y.breaches(), 0);
        y.water(3, 51);
        due("by water", y.breaches(), 1);
    }

    private static void right() {
        Check.by("26");
        LeaningTower x = new LeaningTower();
        x.gauge(1, 10, 3, 0);
        x.warmth(0, 5);
        x.reading(1, 100, 1000);
        due("right", x.right(1), 1000 - 50 - 300);
        x.pipe(0, 0, 1);
        due("none", x.right(2), NO_LEAN);
        due("none such", x.right(3), NO_LEAN);
        due("none such", x.right(0), NO_LEAN);
        due("none such", x.right(-1), NO_LEAN);
        x.as(0);
        due("not known", x.right(1), NO_LEAN);
        x.gauge(2, -100, -1000, 0);
        x.warmth(399, 50);
        x.as(-1);
        due("reading", x.reading(2, 399, BILLION), 3);
        due("greatest", x.right(3), BILLION + 5000 + 399000);
    }

    private static void fit() {
        Check.by("27");
        LeaningTower x = new LeaningTower();
        due("no readings", x.fit(0, 399, false), -2000000001L);
        x.pipe(5, 15, 1000);
        x.gauge(1, 0, 0, 100);
        x.reading(0, 5, 50);
        x.reading(1, 6, 551470 + 500);
        due("one alone", x.fit(5, 5, false), -950);
        due("one alone", x.fit(5, 5, true), 1050);
        due("brought to the first day", x.fit(5, 6, false), 400);
        due("brought to the first day", x.fit(5, 6, true), 600);
        due("brought to a day ahead of both", x.fit(0, 399, true), 600);
        due("the other alone", x.fit(6, 6, false), 551870);
        due("the other alone, to the day behind", x.fit(6, 7, true), 552070);
        due("no readings", x.fit(7, 399, true), -2000000001L);
        x.reading(1, 5, 800);
        due("they touch", x.fit(5, 6, true), -2000000002L);
        x.gauge(1, 0, 0, 150);
        due("they touch", x.fit(5, 6, false), 650);
        due("they touch", x.fit(5, 6, true), 650);
        x.gauge(1, 0, 0, 149);
        due("no bounds", x.fit(5, 6, false), -2000000002L);
        due("wrong order", x.fit(6, 5, false), NO_LEAN);
        due("day -1", x.fit(-1, 5, false), NO_LEAN);
        due("day 400", x.fit(0, 400, false), NO_LEAN);
        x.as(0);
        due("not known", x.fit(0, 399, false), -2000000001L);
    }

    private static void odd() {
        Check.by("28");
        LeaningTower x = new LeaningTower();
        due("no readings", x.odd(0, 399), -1);
        x.gauge(0, 0, 0, 10);
        x.reading(0, 5, 0);
        due("there are bounds", x.odd(0, 399), -1);
        x.reading(0, 5, 15);
        due("there are bounds", x.odd(0, 399), -1);
        x.reading(0, 5, 100);
        due("the third", x.odd(0, 399), 3);
        x.annul(3);
        x.reading(0, 5, 20);
        due("they touch", x.odd(0, 399), -1);
        x.reading(0, 5, 100);
        due("the last", x.odd(0, 399), 6);
        x.reading(0, 6, 110);
        due("none such", x.odd(0, 399), -1);
        due("only those of the days", x.odd(6, 6), -1);
        due("wrong order", x.odd(6, 5), -1);
        due("day -1", x.odd(-1, 5), -1);
        due("day 400", x.odd(0, 400), -1);
        LeaningTower y = new LeaningTower();
        y.gauge(0, 0, 0, 10);
        y.pipe(0, 0, 1);
        y.reading(0, 5, 0);
        y.reading(0, 5, 100);
        due("the least act", y.odd(5, 5), 2);
        y.reading(0, 5, 5);
        due("the odd one", y.odd(5, 5), 3);
        y.annul(3);
        due("bounds", y.odd(5, 5), -1);
        LeaningTower z = new LeaningTower();
        z.gauge(0, 0, 0, 10);
        z.reading(0, 5, 15);
        z.reading(0, 5, 0);
        z.reading(0, 5, 30);
        due("two pairs agree: the second of three bounds all", z.odd(5, 5), 2);
    }

    private static void spoon() {
        Check.by("29");
        LeaningTower x = new LeaningTower();
        due("pipe -1", x.spoon(-1, 0, 1), false);
        due("pipe 3", x.spoon(3, 0, 1), false);
        due("column -1", x.spoon(0, -1, 1), false);
        due("column 16", x.spoon(0, 16, 1), false);
        due("litres -1", x.spoon(0, 0, -1), false);
        due("litres 1001", x.spoon(0, 0, 1001), false);
        due("none told", x.spoons(0, 1, -1, 0), -1);
        due("spoon", x.spoon(0, 0, 1000), true);
        due("spoon", x.spoon(2, 1, 1), true);
        due("by the third", x.spoons(0, 1, -1, 0), 1);
        due("by the third", x.drawn(0), 2);
        due("none any more", x.spoon(2, 1, 0), true);
        due("by the first", x.spoons(0, 1, -1, 0), 1000);
        due("told anew", x.spoon(0, 3, 2), true);
        due("by the first", x.spoons(0, 1, -1, 0), 2);
    }

    private static void spoonsLeast() {
        Check.by("30, 31");
        LeaningTower x = new LeaningTower();
        due("ahead of any", x.drawn(0), -1);
        x.spoon(0, 0, 100);
        x.spoon(1, 0, 30);
        x.spoon(2, 15, 10);
        // A litre of column 0 takes 50 times 15 times 1000 / 1360 away: 551.47.
        due("nothing to do", x.spoons(7, 3, 0, 0), 0);
        due("day 0", x.drawn(0), -2);
        due("day 2", x.drawn(2), -2);
        due("day 3", x.drawn(3), -1);
        due("day -1", x.drawn(-1), -1);
        due("three of the lesser", x.spoons(7, 4, -49000, 0), 90);
        due("none first", x.drawn(0), -2);
        due("then", x.drawn(1), 1);
        due("then", x.drawn(2), 1);
        due("then", x.drawn(3), 1);
        due("day 4", x.drawn(4), -1);
        due("in three days", x.spoons(7, 3, -50000, 0), 100);
        due("none", x.drawn(1), -2);
        due("the greater", x.drawn(2), 0);
        due("exactly the aim", x.spoons(7, 2, -55148, 0), 100);
        due("no way", x.spoons(7, 2, -110296, 0), -1);
        due("what told litres stays", x.drawn(1), 0);
        due("a day alone", x.drawn(2), -1);
        due("just a way", x.spoons(7, 2, -110295, 0), 200);
        due("just a way", x.drawn(0), 0);
        due("eight days", x.spoons(392, 8, -441176, 0), 800);
        due("all of them", x.drawn(7), 0);
        due("more than is known", x.pipe(394, 0, 100), 1);
        due("eight days", x.spoons(392, 8, -441176, 0), 700);
        due("as known", x.as(0), true);
        due("eight days", x.spoons(392, 8, -441176, 0), 800);
        // The pipe to the south only ever makes it worse, and slack lets it.
        due("never to the south", x.spoons(0, 8, 100000, BILLION), 0);
    }

    private static void spoonsOrder() {
        Check.by("30, 31: of like ones");
        LeaningTower x = new LeaningTower();
        x.spoon(0, 0, 20);
        x.spoon(1, 0, 10);
        x.spoon(2, 0, 10);
        due("spoons", x.spoons(0, 3, -10000, 0), 20);
        due("none is first", x.drawn(0), -2);
        due("none is first", x.drawn(1), -2);
        due("the lesser pipe", x.drawn(2), 0);
        due("spoons", x.spoons(0, 3, -16000, 0), 30);
        due("none is first", x.drawn(0), -2);
        due("the lesser pipe", x.drawn(1), 0);
        due("the lesser of like pipes", x.drawn(2), 1);
        due("spoons", x.spoons(0, 3, -27000, 0), 50);
        due("the lesser pipe", x.drawn(0), 0);
        due("the lesser pipe", x.drawn(1), 0);
        due("the lesser of like pipes", x.drawn(2), 1);
        due("spoons", x.spoons(0, 3, -22000, 0), 40);
        due("none is first", x.drawn(0), -2);
        due("the lesser pipe", x.drawn(1), 0);
        due("the lesser pipe", x.drawn(2), 0);
    }

    private static void spoonsSlack() {
        Check.by("30: slack");
        LeaningTower x = new LeaningTower();
        x.pipe(0, 15, 100);
        x.pipe(2, 0, 300);
        // It leans by 55147 at once, and comes back to -110295 on the third day by itself.
        due("slack", x.spoons(0, 3, 0, 55147), 0);
        due("never further over", x.spoons(0, 3, 0, 55146), -1);
        due("from the day behind on", x.spoons(1, 2, 0, 0), 0);
        x.spoon(1, 0, 60);
        x.spoon(0, 0, 30);
        due("drawn at once", x.spoons(0, 3, 0, 55146), 30);
        due("drawn at once", x.drawn(0), 0);
        due("drawn at once", x.drawn(1), -2);
        due("more at once", x.spoons(0, 3, 0, 30000), 60);
        due("more at once", x.drawn(0), 1);
        // One draw at once of the second, or two of the first: the second is dearer, but once is enough.
        LeaningTower y = new LeaningTower();
        y.pipe(0, 15, 100);
        y.spoon(0, 0, 100);
        y.spoon(1, 0, 150);
        due("once of the dearer", y.spoons(0, 3, -20000, 0), 150);
        due("once of the dearer", y.drawn(0), 1);
        due("once of the dearer", y.drawn(1), -2);
        due("once of the dearer", y.drawn(2), -2);
        due("too little slack", x.spoons(0, 3, 0, 20000), -1);
        due("the last day counts, too", x.spoons(0, 1, BILLION, 20000), -1);
        due("the last day counts, too", x.spoons(0, 1, BILLION, 55147), 0);
        x.ring(0, 1000, 0, 0);
        due("by the lean ahead of the first", x.spoons(2, 1, 55147, 0), 0);
    }

    private static void spoonsRefused() {
        Check.by("30: numbers that can't be");
        LeaningTower x = new LeaningTower();
        due("day -1", x.spoons(-1, 1, 0, 0), -1);
        due("day 400", x.spoons(400, 1, 0, 0), -1);
        due("n 0", x.spoons(0, 0, 0, 0), -1);
        due("n 9", x.spoons(0, 9, 0, 0), -1);
        due("last day 400", x.spoons(393, 8, 0, 0), -1);
        due("last day 399", x.spoons(392, 8, 0, 0), 0);
        due("last day 399", x.spoons(399, 1, 0, 0), 0);
        due("last day 400", x.spoons(399, 2, 0, 0), -1);
        due("slack -1", x.spoons(0, 1, 0, -1), -1);
        due("slack above", x.spoons(0, 1, 0, BILLION + 1), -1);
        due("slack", x.spoons(0, 1, 0, BILLION), 0);
        due("any aim", x.spoons(0, 1, Integer.MAX_VALUE, 0), 0);
        due("any aim", x.spoons(0, 1, Integer.MIN_VALUE, 0), -1);
        due("greatest", x.spoons(Integer.MAX_VALUE, 8, 0, 0), -1);
    }

    private static void bursts() {
        Check.by("32");
        LeaningTower x = new LeaningTower();
        x.ring(3, 10, 0, 5);
        x.ring(4, 20, 50, -30);
        x.ring(6, 5, 100, 0);
        // At a lean of 1000000 overhangs are 5, 20 and 100; of ring 3: 20 * 15 and 5 * 95 are 775, by 10 it is 77.
        x.stone(3, 10, 35000 + 76);
        due("bursts", x.bursts(3, 1000000), 1);
        x.stone(3, 10, 35000 + 77);
        due("bears", x.bursts(3, 1000000), 0);
        // At a lean of -1: 5, -31 and -1; 20 * -36 and 5 * -6 are -750, without sign 750.
        x.stone(3, 7, 35000 + 106);
        due("bursts without sign", x.bursts(3, -1), 1);
        x.stone(3, 7, 35000 + 107);
        due("bears", x.bursts(3, -1), 0);
        // Ring 4: 5 * 80 at 1000000; what is below it does not count.
        x.stone(4, 3, 25000 + 132);
        due("bursts", x.bursts(4, 1000000), 1);
        x.stone(4, 3, 25000 + 133);
        due("bears", x.bursts(4, 1000000), 0);
        x.stone(7, 1, 0);
        due("no tons, nothing above", x.bursts(7, BILLION), 0);
        due("ring -1", x.bursts(-1, 0), -1);
        due("ring 8", x.bursts(8, 0), -1);
        due("lean above", x.bursts(0, BILLION + 1), -1);
        due("lean below", x.bursts(0, -BILLION - 1), -1);
        due("lean least", x.bursts(0, -BILLION), 0);
        // 20 * (-50030 - 5) and 5 * (-100000 - 5) are -1500725 at the least lean.
        x.stone(3, 1, 35000 + 900000);
        due("lean least", x.bursts(3, -BILLION), 1);
    }

    private static void first() {
        Check.by("33");
        LeaningTower x = new LeaningTower();
        due("none", x.first(true, 0, 10000000), -1);
        x.ring(7, 100, 50, 0);
        // Rings 0 .. 6 have W 100 and M 100 * floor(50 * LEAN / 1000000).
        x.stone(2, 10, 100000 + 10 * 99);
        x.stone(4, 10, 100000 + 10 * 99);
        due("lean", x.first(false, 0, 1000000), 2000000);
        due("ring", x.first(true, 0, 1000000), 2);
        due("ring too late", x.first(true, 0, 1000), -1);
        due("lean too late", x.first(false, 0, 10050), -1);
        due("the 200th", x.first(false, 10000, 10000), 2000000);
        due("the 201st", x.first(false, 0, 10000), -1);
        due("by steps", x.first(false, 0, 30000), 2010000);
        due("at once", x.first(false, 3000000, 1), 3000000);
        due("from -1", x.first(true, -1, 1), -1);
        due("from above", x.first(true, BILLION + 1, 1), -1);
        due("step 0", x.first(true, 0, 0), -1);
        due("step above", x.first(true, 0, 10000001), -1);
        due("from the greatest", x.first(false, BILLION, 10000000), BILLION);
        due("far away", x.first(false, 0, 10000000), 10000000);
        x = new LeaningTower();
        x.ring(7, 100, 100, 0);
        for (int i = 0; i < 8; i++) {
            x.stone(i, 100, 1000000);
        }
        x.stone(6, 100, 100000 + 100000);
        // Behind the greatest lean there is none any more: 100 * 100000 / 100 is 100000 at it.
        due("no lean above the greatest", x.first(false, BILLION, 10000000), -1);
        x.stone(6, 100, 100000 + 99999);
        due("the greatest lean", x.first(false, BILLION - 10000000, 10000000), BILLION);
    }

    private static void causes() {
        Check.by("34, 35, 36, 37");
        LeaningTower x = new LeaningTower();
        due("nothing did nothing", x.lurch(0, true), 0);
        due("nothing did nothing", x.lurch(0, false), 0);
        due("no set", x.lurch(1, true), -2);
        due("no sets", x.sets(1), 0);
        due("cause", x.cause(10, 20), 0);
        due("cause", x.cause(15, 30), 1);
        due("cause", x.cause(-5, 0), 2);
        due("sets of 20", x.sets(20), 5);
        due("sure of 20", x.lurch(20, true), 0);
        due("maybe of 20", x.lurch(20, false), 7);
        due("sets of 25", x.sets(25), 4);
        due("sure of 25", x.lurch(25, true), 2);
        due("sets of 50", x.sets(50), 2);
        due("sure of 50", x.lurch(50, true), 3);
        due("maybe of 50", x.lurch(50, false), 7);
        due("sets of 51", x.sets(51), 0);
        due("none of 51", x.lurch(51, false), -2);
        due("of 0: none, or the third", x.sets(0), 2);
        due("sure of 0", x.lurch(0, true), 0);
        due("maybe of 0", x.lurch(0, false), 4);
        due("sure of -5", x.lurch(-5, true), 4);
        due("none of -6", x.lurch(-6, true), -2);
        due("n above", x.lurch(1000001, true), -1);
        due("n below", x.lurch(-1000001, false), -1);
        due("n above", x.sets(1000001), -1);
        due("n below", x.sets(-1000001), -1);
        due("wrong order", x.cause(1, 0), -1);
        due("least below", x.cause(-1000001, 0), -1);
        due("greatest above", x.cause(0, 1000001), -1);
        due("forget", x.forget(), 3);
        due("forget", x.forget(), 0);
        due("forgotten", x.lurch(20, false), -2);
        for (int i = 0; i < 10; i++) {
            due("cause", x.cause(-1000000, 1000000), i);
        }
        due("an 11th", x.cause(0, 0), -1);
        due("causes", x.all(4), 10);
        due("all but the empty set", x.sets(1000000), 1023);
        due("maybe all", x.lurch(-1000000, false), 1023);
        due("sure none", x.lurch(-1000000, true), 0);
        due("forget", x.forget(), 10);
        due("anew", x.cause(5, 5), 0);
        due("anew", x.lurch(5, true), 1);
    }

    private static void all() {
        Check.by("38");
        LeaningTower x = new LeaningTower();
        x.lead(1, 0, 0, 0);
        x.pipe(0, 0, 1);
        x.frost(0, 0);
        x.reading(0, 0, 0);
        x.mandate(0);
        x.annul(1);
        x.cause(0, 0);
        due("acts", x.all(0), 6);
        due("known at", x.all(1), 6);
        due("readings", x.all(2), 1);
        due("works", x.all(3), 2);
        due("causes", x.all(4), 1);
        due("another", x.all(5), -1);
        due("another", x.all(-1), -1);
        x.as(3);
        due("acts", x.all(0), 6);
        due("known at", x.all(1), 3);
        due("readings", x.all(2), 0);
        due("works", x.all(3), 3);
    }

    private static void full() {
        Check.by("10 .. 16: 200 acts");
        LeaningTower x = new LeaningTower();
        for (int i = 1; i <= 200; i++) {
            due("lead", x.lead(1000, 20000, 0, 399), i);
        }
        due("lead", x.lead(1, 0, 0, 0), -1);
        due("pipe", x.pipe(0, 0, 1), -1);
        due("frost", x.frost(0, 0), -1);
        due("reading", x.reading(0, 0, 0), -1);
        Check.tape(x, "stop");
        due("mandate", x.mandate(0), -2);
        due("no text is read", x.fault(0), 0);
        due("the tape goes", x.end(1), false);
        due("annul", x.annul(1), -1);
        due("acts", x.all(0), 200);
        due("works", x.all(3), 200);
        // 200000 tons at 20000 each.
        due("load", x.load(15, 0), (200000L * 42500 + 4000000000L * 15) / 680000);
    }

    /** What later calls answer is free; but none may throw. */
    private static void behindTheLastCall() {
        Check.by("at most 512 calls");
        LeaningTower x = new LeaningTower();
        for (int i = 0; i < 2000; i++) {
            x.feed(i, i, i, i, i);
            x.mandate(i);
            x.pipe(i % 400, i % 16, 1 + i % 1000);
            x.cause(i, i + 1);
        }
        due("acts", x.all(0), 200);
    }
}

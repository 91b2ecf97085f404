import java.util.ArrayList;
import java.util.Arrays;
import java.util.List;
import java.util.function.Consumer;

/**
 * Every number of every call: the last values that are taken, the first that are not, and the ends of int. Behind each
 * call that is refused, all that can be asked is answered as by a twin on which it was not called.
 */
public final class NumbersTest {
    private static final int LAST_ACT = 13;
    private static final int[] KNOWN_AT = {Check.NONE, 6};
    private static final Consumer<LeaningTower> NO_MORE = x -> { };

    /** A call with a number for each of its places. */
    private interface Call {
        long of(LeaningTower x, int[] numbers);
    }

    public static void main(String[] args) {
        theTwinsAreAlike();
        tower();
        book();
        days();
        mandates();
        readings();
        sought();
        wrongOrder();
        noneSuch();
        refusedText();
        fullBook();
        fullTape();
        fullList();
        Check.end("NumbersTest");
    }

    /** A tower of which everything has been told, so that whatever a refused call might change can be seen. */
    private static LeaningTower furnished(int knownAt) {
        LeaningTower x = new LeaningTower();
        for (int column = 0; column < 16; column++) {
            x.stiff(column, 40 + 7 * column);
        }
        for (int ring = 0; ring < 8; ring++) {
            x.ring(ring, 900 - 90 * ring, 3 + 7 * ring, 12 - 9 * ring);
            x.stone(ring, 20 - 2 * ring, ring == 0 ? 5 : 4000000 / (5 + ring));
        }
        x.water(0, 30);
        x.water(5, 80);
        x.warmth(2, 10);
        x.warmth(6, -7);
        for (int gauge = 0; gauge < 4; gauge++) {
            x.gauge(gauge, 3 - gauge, 5 * gauge - 7, 100000 + gauge);
        }
        acts(x);
        Check.due("a text with a fault", Check.mandate(x, "limit pipe 1,;", 0), Check.NONE);
        x.cause(10, 20);
        x.cause(-5, 5);
        x.cause(100, 300);
        x.cause(7, 7);
        x.spoon(0, 0, 200);
        x.spoon(2, 1, 150);
        Check.other("spoons", x.spoons(7, 4, x.lean(11) - 150000, Check.BILLION), Check.NONE);
        Check.tape(x, "stop when day>3;    allow lead when all;");
        Check.due("as", x.as(knownAt), true);
        return x;
    }

    private static void acts(LeaningTower x) {
        x.reading(0, 3, 1234);
        x.lead(300, -2500, 1, 200);
        x.pipe(2, 14, 400);
        x.frost(4, 9);
        Check.mandate(x, "allow pipe when day<7;limit pipe 300;allow lead when all;stop when lean>900000;", 0);
        x.reading(1, 5, -5000);
        x.pipe(6, 3, 900);
        x.annul(7);
        x.lead(200, 1500, 150, 399);
        Check.mandate(x, "allow frost when all;allow pipe when load 3>5;limit lead 250;", 9);
        x.frost(399, 0);
        x.pipe(20, 2, 50);
        Check.due("the last act", x.reading(2, 9, -77), LAST_ACT);
    }

    /** All that can be asked of a furnished tower, and what then stands on its tape. */
    private static long[] answers(LeaningTower x) {
        List<Long> all = new ArrayList<>();
        ofTheGround(x, all);
        ofTheBook(x, all);
        ofWhatIsSought(x, all);
        ofTheTape(x, all);
        return all.stream().mapToLong(Long::longValue).toArray();
    }

    private static void ofTheGround(LeaningTower x, List<Long> all) {
        for (int day : new int[] {0, 1, 2, 3, 4, 5, 6, 7, 8, 9, 10, 100, 151, 201, 300, 398, 399, 400}) {
            all.add((long) x.lean(day));
        }
        for (int column = 0; column < 16; column++) {
            all.add(x.settled(column, 400));
            all.add((long) x.load(column, 8));
        }
        all.add((long) x.above(0));
        all.add((long) x.above(200000));
    }

    private static void ofTheBook(LeaningTower x, List<Long> all) {
        for (int what = 0; what <= 4; what++) {
            all.add((long) x.all(what));
        }
        all.add((long) x.fault(0));
        all.add((long) x.fault(1));
        for (int day : new int[] {0, 6, 7, 8, 9, 399}) {
            all.add((long) x.force(day));
            for (int work = 0; work < 3; work++) {
                all.add((long) x.may(work, 275, day));
            }
        }
        all.add((long) x.breaches());
        for (int k = 0; k < 6; k++) {
            all.add((long) x.breach(k));
        }
        for (int act = 1; act <= LAST_ACT + 1; act++) {
            all.add((long) x.right(act));
        }
        for (int to : new int[] {3, 5, 9, 399}) {
            all.add(x.fit(3, to, false));
            all.add(x.fit(3, to, true));
            all.add((long) x.odd(3, to));
        }
    }

    private static void ofWhatIsSought(LeaningTower x, List<Long> all) {
        for (int i = 0; i < 8; i++) {
            all.add((long) x.drawn(i));
        }
        for (int ring = 0; ring < 8; ring++) {
            for (int lean = -40000000; lean <= 40000000; lean += 16000000) {
                all.add((long) x.bursts(ring, lean));
            }
        }
        all.add((long) x.first(true, 0, 1000));
        for (int lurch : new int[] {-5, 0, 7, 15, 120, 330}) {
            all.add((long) x.lurch(lurch, true));
            all.add((long) x.lurch(lurch, false));
            all.add((long) x.sets(lurch));
        }
        for (int lower = 50000; lower <= 250000; lower += 40000) {
            all.add((long) x.spoons(7, 4, x.lean(11) - lower, Check.BILLION));
            all.add((long) x.drawn(3));
        }
    }

    private static void ofTheTape(LeaningTower x, List<Long> all) {
        x.as(Check.NONE);
        all.add((long) Check.bit(x.end(41)));
        all.add((long) x.feed(0x6c696d69, 0x74206c65, 0x61642037, 0x3b202020, 0x20202020));
        all.add((long) x.mandate(2));
        for (int much : new int[] {1, 7, 8}) {
            all.add((long) x.may(0, much, 3));
        }
        all.add((long) x.may(0, 7, 4));
    }

    /** The answers of a twin on which the call was not made; its tape may have gone. */
    private static long[] due(int knownAt, Consumer<LeaningTower> more, boolean tapeGone) {
        LeaningTower x = furnished(knownAt);
        more.accept(x);
        if (tapeGone) {
            x.end(0);
        }
        return answers(x);
    }

    private static void theTwinsAreAlike() {
        Check.by("the twins of this test");
        for (int knownAt : KNOWN_AT) {
            long[] all = due(knownAt, NO_MORE, false);
            Check.due("all answers alike", Arrays.equals(all, due(knownAt, NO_MORE, false)), true);
            Check.due("all answers alike without a tape", Arrays.equals(all, due(knownAt, NO_MORE, true)), false);
        }
    }

    private static void refused(String what, Call call, long refusal, int... numbers) {
        refusedBehind(NO_MORE, what, call, refusal, numbers);
    }

    /** Refused behind more calls than those that furnished the tower. */
    private static void refusedBehind(Consumer<LeaningTower> more, String what, Call call, long refusal,
            int... numbers) {
        boolean tapeGone = what.startsWith("mandate");
        for (int knownAt : KNOWN_AT) {
            LeaningTower x = furnished(knownAt);
            more.accept(x);
            String told = what + Arrays.toString(numbers) + " known at " + knownAt;
            Check.due(told, call.of(x, numbers), refusal);
            boolean alike = Arrays.equals(answers(x), due(knownAt, more, tapeGone));
            Check.due(told + " leaves all as it was: that", alike, true);
        }
    }

    private static void taken(String what, Call call, long refusal, int... numbers) {
        Check.other(what + Arrays.toString(numbers), call.of(furnished(Check.NONE), numbers), refusal);
    }

    /** Each place of the numbers in its turn, from its least number up to its greatest. */
    private static void spans(String what, Call call, long refusal, int[] numbers, int[]... spans) {
        Check.by(what);
        taken(what, call, refusal, numbers);
        for (int place = 0; place < spans.length; place++) {
            int least = spans[place][0];
            int greatest = spans[place][1];
            for (int n : new int[] {least, greatest}) {
                taken(what, call, refusal, with(numbers, place, n));
            }
            for (int n : new int[] {least - 1, greatest + 1, Check.LEAST, Check.GREATEST}) {
                refused(what, call, refusal, with(numbers, place, n));
            }
        }
    }

    private static int[] with(int[] numbers, int place, int n) {
        int[] some = numbers.clone();
        some[place] = n;
        return some;
    }

    private static int[] span(int least, int greatest) {
        return new int[] {least, greatest};
    }

    private static int[] numbers(int... numbers) {
        return numbers;
    }

    private static void tower() {
        int[] day = span(0, 399);
        spans("end", (x, n) -> Check.bit(x.end(n[0])), 0, numbers(20), span(0, 40));
        spans("stiff", (x, n) -> Check.bit(x.stiff(n[0], n[1])), 0, numbers(3, 77), span(0, 15), span(1, 1000));
        spans("ring", (x, n) -> Check.bit(x.ring(n[0], n[1], n[2], n[3])), 0, numbers(2, 111, 22, -33), span(0, 7),
                span(0, 5000), span(0, 100), span(-500, 500));
        spans("stone", (x, n) -> Check.bit(x.stone(n[0], n[1], n[2])), 0, numbers(2, 33, 44444), span(0, 7),
                span(1, 100), span(0, 1000000));
        spans("water", (x, n) -> Check.bit(x.water(n[0], n[1])), 0, numbers(7, 99), day, span(0, 100));
        spans("warmth", (x, n) -> Check.bit(x.warmth(n[0], n[1])), 0, numbers(7, 44), day, span(-20, 50));
        spans("gauge", (x, n) -> Check.bit(x.gauge(n[0], n[1], n[2], n[3])), 0, numbers(2, 55, 66, 777), span(0, 3),
                span(-100, 100), span(-1000, 1000), span(0, 1000000));
    }

    private static void book() {
        int[] day = span(0, 399);
        spans("lead", (x, n) -> x.lead(n[0], n[1], n[2], n[3]), Check.NONE, numbers(123, 4567, 8, 300), span(1, 1000),
                span(-20000, 20000), span(0, 300), span(8, 399));
        spans("pipe", (x, n) -> x.pipe(n[0], n[1], n[2]), Check.NONE, numbers(7, 8, 99), day, span(0, 15),
                span(1, 1000));
        spans("frost", (x, n) -> x.frost(n[0], n[1]), Check.NONE, numbers(7, 8), day, span(0, 15));
        spans("reading", (x, n) -> x.reading(n[0], n[1], n[2]), Check.NONE, numbers(2, 7, 12345), span(0, 3), day,
                span(-1000000000, 1000000000));
        spans("mandate", (x, n) -> x.mandate(n[0]), -2, numbers(7), day);
        spans("fault", (x, n) -> x.fault(n[0]), Check.NONE, numbers(0), span(0, 1));
        spans("annul", (x, n) -> x.annul(n[0]), Check.NONE, numbers(5), span(1, LAST_ACT));
        spans("as", (x, n) -> Check.bit(x.as(n[0])), 0, numbers(5), span(-1, LAST_ACT));
        spans("all", (x, n) -> x.all(n[0]), Check.NONE, numbers(2), span(0, 4));
    }

    private static void days() {
        spans("lean", (x, n) -> x.lean(n[0]), -2000000000, numbers(7), span(0, 400));
        spans("settled", (x, n) -> x.settled(n[0], n[1]), -1000000000000001L, numbers(7, 7), span(0, 15),
                span(0, 400));
        spans("load", (x, n) -> x.load(n[0], n[1]), Check.NONE, numbers(7, 7), span(0, 15), span(0, 399));
    }

    private static void mandates() {
        spans("force", (x, n) -> x.force(n[0]), Check.NONE, numbers(7), span(0, 399));
        spans("may", (x, n) -> x.may(n[0], n[1], n[2]), Check.NONE, numbers(1, 50, 7), span(0, 2), span(0, 1000),
                span(0, 399));
        int breaches = furnished(Check.NONE).breaches();
        Check.due("breaches", breaches > 1, true);
        Check.by("breach");
        for (int k : new int[] {0, breaches - 1}) {
            taken("breach", (x, n) -> x.breach(n[0]), Check.NONE, k);
        }
        for (int k : new int[] {-1, breaches, Check.LEAST, Check.GREATEST}) {
            refused("breach", (x, n) -> x.breach(n[0]), Check.NONE, k < 0 || k > breaches ? k : breaches);
        }
    }

    private static void readings() {
        for (boolean upper : new boolean[] {false, true}) {
            spans("fit", (x, n) -> x.fit(n[0], n[1], upper), -2000000000, numbers(3, 9), span(0, 9), span(3, 399));
        }
        Check.by("right");
        for (int act : new int[] {1, 6, LAST_ACT}) {
            taken("right", (x, n) -> x.right(n[0]), Check.NO_LEAN, act);
        }
        for (int act : new int[] {-1, 0, 2, LAST_ACT - 1, LAST_ACT + 1, Check.LEAST, Check.GREATEST}) {
            refused("right", (x, n) -> x.right(n[0]), Check.NO_LEAN, act);
        }
        // Two readings that lie far apart are there from day 3 up to day 9; so one of them is odd in each of the spans.
        Call odd = (x, n) -> {
            x.as(Check.NONE);
            x.annul(6);
            x.reading(0, 3, 900000);
            x.reading(0, 9, 900000);
            x.annul(n[2]);
            return x.odd(n[0], n[1]);
        };
        Check.by("odd");
        taken("odd", odd, Check.NONE, 0, 9, 15);
        taken("odd", odd, Check.NONE, 9, 9, 15);
        taken("odd", odd, Check.NONE, 3, 3, 16);
        taken("odd", odd, Check.NONE, 3, 399, 15);
        for (int day : new int[] {-1, 10, 400, Check.LEAST, Check.GREATEST}) {
            refused("odd from", (x, n) -> x.odd(n[0], 9), Check.NONE, day);
        }
        for (int day : new int[] {-1, 2, 400, Check.LEAST, Check.GREATEST}) {
            refused("odd to", (x, n) -> x.odd(3, n[0]), Check.NONE, day);
        }
    }

    private static void sought() {
        int any = Check.GREATEST;
        spans("spoon", (x, n) -> Check.bit(x.spoon(n[0], n[1], n[2])), 0, numbers(1, 7, 88), span(0, 2), span(0, 15),
                span(0, 1000));
        spans("spoons", (x, n) -> x.spoons(n[0], n[1], any, n[2]), Check.NONE, numbers(7, 4, 1000000000),
                span(0, 396), span(1, 8), span(0, 1000000000));
        spans("spoons of one day", (x, n) -> x.spoons(n[0], 1, any, Check.BILLION), Check.NONE, numbers(7),
                span(0, 399));
        spans("spoons of eight days", (x, n) -> x.spoons(n[0], 8, any, Check.BILLION), Check.NONE, numbers(7),
                span(0, 392));
        spans("spoons up to the last day", (x, n) -> x.spoons(397, n[0], any, Check.BILLION), Check.NONE, numbers(2),
                span(1, 3));
        spans("drawn", (x, n) -> x.drawn(n[0]), Check.NONE, numbers(2), span(0, 3));
        spans("bursts", (x, n) -> x.bursts(n[0], n[1]), Check.NONE, numbers(3, 1000), span(0, 7),
                span(-1000000000, 1000000000));
        for (boolean ring : new boolean[] {false, true}) {
            spans("first", (x, n) -> x.first(ring, n[0], n[1]), Check.NONE, numbers(5000, 100), span(0, 1000000000),
                    span(1, 10000000));
        }
        spans("cause", (x, n) -> x.cause(n[0], n[1]), Check.NONE, numbers(-5, 6), span(-1000000, 6),
                span(-5, 1000000));
        for (boolean sure : new boolean[] {false, true}) {
            spans("lurch", (x, n) -> x.lurch(n[0], sure), -1, numbers(10), span(-1000000, 1000000));
        }
        spans("sets", (x, n) -> x.sets(n[0]), Check.NONE, numbers(10), span(-1000000, 1000000));
    }

    private static void wrongOrder() {
        Check.by("the days in wrong order, too");
        taken("lead", (x, n) -> x.lead(5, 6, n[0], n[1]), Check.NONE, 8, 8);
        refused("lead", (x, n) -> x.lead(5, 6, n[0], n[1]), Check.NONE, 9, 8);
        refused("lead", (x, n) -> x.lead(5, 6, n[0], n[1]), Check.NONE, 399, 0);
        taken("fit", (x, n) -> x.fit(n[0], n[1], true), Check.NO_LEAN, 8, 8);
        refused("fit", (x, n) -> x.fit(n[0], n[1], true), Check.NO_LEAN, 9, 8);
        refused("odd", (x, n) -> x.odd(n[0], n[1]), Check.NONE, 9, 3);
        Check.by("the span in wrong order, too");
        taken("cause", (x, n) -> x.cause(n[0], n[1]), Check.NONE, 8, 8);
        refused("cause", (x, n) -> x.cause(n[0], n[1]), Check.NONE, 9, 8);
        refused("cause", (x, n) -> x.cause(n[0], n[1]), Check.NONE, 1000000, -1000000);
    }

    private static void noneSuch() {
        Check.by("NONE if there is none such, it is VOID or tells so");
        refused("annul of what is void", (x, n) -> x.annul(n[0]), Check.NONE, 7);
        refused("annul of what tells so", (x, n) -> x.annul(n[0]), Check.NONE, 8);
        Check.by("spoons: NONE if there is no way");
        refused("spoons", (x, n) -> x.spoons(7, 4, n[0], Check.BILLION), Check.NONE, -1999999999);
        Check.by("lurch: -2 if no set may have done it");
        refused("lurch", (x, n) -> x.lurch(n[0], true), -2, 1000000);
    }

    private static void refusedText() {
        Check.by("mandate: NONE with a fault");
        // The furnished tower tells the fault of the same text already; so nothing but the tape may go.
        refused("mandate of a text with a fault", (x, n) -> {
            Check.tape(x, "limit pipe 1,;");
            return x.mandate(0);
        }, Check.NONE);
    }

    private static void fullBook() {
        Check.by("200 acts at most");
        Consumer<LeaningTower> more = x -> {
            for (int act = LAST_ACT + 1; act <= 200; act++) {
                Check.due("reading " + act, x.reading(3, 300, act), act);
            }
        };
        refusedBehind(more, "lead", (x, n) -> x.lead(123, 4567, 8, 300), Check.NONE);
        refusedBehind(more, "pipe", (x, n) -> x.pipe(7, 8, 99), Check.NONE);
        refusedBehind(more, "frost", (x, n) -> x.frost(7, 8), Check.NONE);
        refusedBehind(more, "reading", (x, n) -> x.reading(2, 7, 12345), Check.NONE);
        refusedBehind(more, "mandate", (x, n) -> x.mandate(7), -2);
        for (int act : new int[] {1, 5, 7, 8, 200, 201}) {
            refusedBehind(more, "annul", (x, n) -> x.annul(n[0]), Check.NONE, act);
        }
        refusedBehind(more, "as", (x, n) -> Check.bit(x.as(n[0])), 0, 201);
    }

    private static void fullTape() {
        Check.by("feed: NONE, doing nothing, if there would be more than 800");
        // The 760 bytes behind the 40 go again before they are read.
        Consumer<LeaningTower> more = x -> {
            for (int bytes = 60; bytes <= 800; bytes += 20) {
                Check.due("feed", x.feed(1, 2, 3, 4, 5), bytes);
            }
        };
        Call feedAndEnd = (x, n) -> {
            long answer = x.feed(0x61616161, 0x61616161, 0x61616161, 0x61616161, 0x61616161);
            x.end(40);
            return answer;
        };
        for (int knownAt : KNOWN_AT) {
            LeaningTower x = furnished(knownAt);
            more.accept(x);
            Check.due("feed", feedAndEnd.of(x, new int[0]), Check.NONE);
            Check.due("all as it was", Arrays.equals(answers(x), due(knownAt, NO_MORE, false)), true);
        }
        refusedBehind(more, "feed", (x, n) -> x.feed(7, 7, 7, 7, 7), Check.NONE);
        refusedBehind(more, "end", (x, n) -> Check.bit(x.end(801)), 0);
    }

    private static void fullList() {
        Check.by("10 causes at most");
        Consumer<LeaningTower> more = x -> {
            for (int cause = 4; cause < 10; cause++) {
                Check.due("cause", x.cause(cause, 3 * cause), cause);
            }
        };
        refusedBehind(more, "cause", (x, n) -> x.cause(n[0], n[1]), Check.NONE, -1, 1);
        refusedBehind(more, "cause", (x, n) -> x.cause(n[0], n[1]), Check.NONE, 2, 1);
    }
}

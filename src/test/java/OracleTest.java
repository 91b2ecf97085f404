import java.math.BigInteger;
import java.util.ArrayDeque;
import java.util.ArrayList;
import java.util.Arrays;
import java.util.Collections;
import java.util.Deque;
import java.util.List;
import java.util.Map;
import java.util.Random;
import java.util.TreeMap;

/**
 * Runs of calls by fixed seeds, each answered by the program and by a second, slow model of the document that is
 * written another way: the book is read anew for every day, texts are read by a table with a stack, sums are
 * reckoned with BigInteger, and all ways of spoons and all sets of causes are tried.
 */
public final class OracleTest {
    public static void main(String[] args) {
        int runs = args.length > 0 ? Integer.parseInt(args[0]) : 400;
        int firstSeed = args.length > 1 ? Integer.parseInt(args[1]) : 1;
        for (int seed = firstSeed; seed < firstSeed + runs; seed++) {
            Run run = new Run(seed);
            if (!run.isRight()) {
                System.out.println("OracleTest: seed " + seed + " differs");
                System.exit(1);
            }
        }
        System.out.println("OracleTest: " + runs + " runs answered alike");
    }
}

/** One run of calls. */
final class Run {
    private static final String[] CALLS = {
        "feed", "end", "stiff", "ring", "stone", "water", "warmth", "gauge", "lead", "pipe", "frost", "reading",
        "mandate", "text", "fault", "annul", "as", "lean", "settled", "load", "above", "force", "may", "breaches",
        "breach", "right", "fit", "odd", "spoon", "spoons", "drawn", "bursts", "first", "cause", "forget", "lurch",
        "sets", "all"};

    private final Random random;
    private final LeaningTower tower = new LeaningTower();
    private final Model model = new Model();
    private final StringBuilder told = new StringBuilder();
    private final boolean wild;
    private final int dayRange;
    private final boolean spooning;
    private int calls;
    private boolean right = true;

    Run(int seed) {
        random = new Random(seed);
        wild = random.nextInt(10) == 0;
        dayRange = random.nextBoolean() ? 12 : 400;
        spooning = random.nextInt(4) == 0;
    }

    boolean isRight() {
        int[] weight = new int[CALLS.length];
        int sum = 0;
        for (int i = 0; i < weight.length; i++) {
            weight[i] = random.nextInt(3) == 0 ? 0 : 1 + random.nextInt(8);
            if (CALLS[i].equals("forget")) {
                weight[i] = Math.min(weight[i], 1);
            }
            if (CALLS[i].equals("text") && random.nextBoolean()) {
                weight[i] *= 4;
            }
            sum += weight[i];
        }
        if (spooning) {
            spoonWell();
        }
        while (right && calls < 512) {
            int at = random.nextInt(sum);
            int i = 0;
            while (at >= weight[i]) {
                at -= weight[i];
                i++;
            }
            call(CALLS[i]);
        }
        return right;
    }

    /** Spoons that have to hold a tower which known pipes pull over, now this way, now that way. */
    private void spoonWell() {
        if (random.nextBoolean()) {
            for (int ring = 0; ring < 8; ring++) {
                int high = random.nextInt(101);
                int curve = random.nextInt(400);
                due("ring(" + ring + ",5000," + high + "," + curve + ")", tower.ring(ring, 5000, high, curve),
                        model.ring(ring, 5000, high, curve));
            }
        }
        for (int i = 0; i < 30 && right; i++) {
            for (int k = 0; k < 3; k++) {
                int column = random.nextInt(4);
                int litres = 10 * random.nextInt(20);
                due("spoon(" + k + "," + column + "," + litres + ")", tower.spoon(k, column, litres),
                        model.spoon(k, column, litres));
            }
            int pulled = random.nextInt(8);
            int column = random.nextInt(8) == 0 ? random.nextInt(16) : 13 + random.nextInt(3);
            int litres = 1 + random.nextInt(150);
            due("pipe(" + pulled + "," + column + "," + litres + ")", tower.pipe(pulled, column, litres),
                    model.pipe(pulled, column, litres));
            int day = random.nextInt(5);
            int n = 1 + random.nextInt(6);
            int aim = model.lean(day) + random.nextInt(100000) - 70000;
            int slack = random.nextInt(60000);
            due("spoons(" + day + "," + n + "," + aim + "," + slack + ")", tower.spoons(day, n, aim, slack),
                    model.spoons(day, n, aim, slack));
            for (int gone = 0; gone < n; gone++) {
                due("drawn(" + gone + ")", tower.drawn(gone), model.drawn(gone));
            }
        }
    }

    private void due(String call, long got, long want) {
        calls++;
        told.append(call).append(" = ").append(got).append('\n');
        if (got != want && right) {
            right = false;
            System.out.println(told + "the last one is due " + want);
        }
    }

    private void due(String call, boolean got, boolean want) {
        due(call, got ? 1 : 0, want ? 1 : 0);
    }

    /** A number of a span, now and then at its edges, beyond them or anywhere. */
    private int number(int least, int greatest) {
        int how = random.nextInt(wild ? 12 : 60);
        switch (how) {
            case 0: return least;
            case 1: return greatest;
            case 2: return least - 1;
            case 3: return greatest + 1;
            case 4: return random.nextInt();
            case 5: return random.nextBoolean() ? Integer.MAX_VALUE : Integer.MIN_VALUE;
            default: return (int) (least + Math.floorMod(random.nextLong(), (long) greatest - least + 1));
        }
    }

    private int day() {
        return number(0, random.nextInt(20) == 0 ? 399 : dayRange - 1);
    }

    private int column() {
        return number(0, 15);
    }

    private int act() {
        return number(0, Math.max(1, model.acts.size()));
    }

    private int leanNear() {
        List<Integer> some = new ArrayList<>();
        int day = random.nextInt(dayRange + 1);
        some.add(model.lean(day));
        some.add(number(-1000000, 1000000));
        some.add(number(-1000000000, 1000000000));
        return some.get(random.nextInt(3)) + (random.nextBoolean() ? 0 : random.nextInt(2001) - 1000);
    }

    private void call(String name) {
        int a;
        int b;
        int c;
        int d;
        boolean flag = random.nextBoolean();
        switch (name) {
            case "feed":
                int[] five = {random.nextInt(), random.nextInt(), random.nextInt(), random.nextInt(), 0x73746f70};
                feed(five);
                break;
            case "end":
                a = number(0, 60);
                due("end(" + a + ")", tower.end(a), model.end(a));
                break;
            case "stiff":
                a = column();
                b = number(1, random.nextInt(3) == 0 ? 3 : 1000);
                due("stiff(" + a + "," + b + ")", tower.stiff(a, b), model.stiff(a, b));
                break;
            case "ring":
                a = number(0, 7);
                b = number(0, 5000);
                c = number(0, 100);
                d = number(-500, 500);
                due("ring(" + a + "," + b + "," + c + "," + d + ")", tower.ring(a, b, c, d), model.ring(a, b, c, d));
                break;
            case "stone":
                a = number(0, 7);
                b = number(1, 100);
                c = number(0, 1000000);
                due("stone(" + a + "," + b + "," + c + ")", tower.stone(a, b, c), model.stone(a, b, c));
                break;
            case "water":
                a = day();
                b = number(0, 100);
                due("water(" + a + "," + b + ")", tower.water(a, b), model.water(a, b));
                break;
            case "warmth":
                a = day();
                b = number(-20, 50);
                due("warmth(" + a + "," + b + ")", tower.warmth(a, b), model.warmth(a, b));
                break;
            case "gauge":
                a = number(0, 3);
                b = number(-100, 100);
                c = number(-1000, 1000);
                d = number(0, flag ? 1000 : 1000000);
                due("gauge(" + a + "," + b + "," + c + "," + d + ")", tower.gauge(a, b, c, d),
                        model.gauge(a, b, c, d));
                break;
            default:
                bookCall(name, flag);
        }
    }

    private void bookCall(String name, boolean flag) {
        int a;
        int b;
        int c;
        int d;
        switch (name) {
            case "lead":
                a = number(1, 1000);
                b = number(-20000, 20000);
                c = day();
                d = flag ? c : day();
                due("lead(" + a + "," + b + "," + c + "," + d + ")", tower.lead(a, b, c, d), model.lead(a, b, c, d));
                break;
            case "pipe":
                a = day();
                b = column();
                c = number(1, 1000);
                due("pipe(" + a + "," + b + "," + c + ")", tower.pipe(a, b, c), model.pipe(a, b, c));
                break;
            case "frost":
                a = day();
                b = column();
                due("frost(" + a + "," + b + ")", tower.frost(a, b), model.frost(a, b));
                break;
            case "reading":
                a = number(0, 3);
                b = day();
                c = flag ? leanNear() : model.lean(Math.max(0, Math.min(400, b))) + random.nextInt(1500);
                due("reading(" + a + "," + b + "," + c + ")", tower.reading(a, b, c), model.reading(a, b, c));
                break;
            case "mandate":
                a = day();
                due("mandate(" + a + ")", tower.mandate(a), model.mandate(a));
                break;
            case "text":
                text(new Texts(random).some());
                break;
            case "fault":
                a = number(0, 1);
                due("fault(" + a + ")", tower.fault(a), model.fault(a));
                break;
            case "annul":
                a = act();
                due("annul(" + a + ")", tower.annul(a), model.annul(a));
                break;
            case "as":
                a = random.nextInt(3) == 0 ? -1 : act();
                due("as(" + a + ")", tower.as(a), model.as(a));
                break;
            default:
                dayCall(name, flag);
        }
    }

    private void dayCall(String name, boolean flag) {
        int a;
        int b;
        int c;
        switch (name) {
            case "lean":
                a = flag ? number(0, 400) : day();
                due("lean(" + a + ")", tower.lean(a), model.leanCall(a));
                break;
            case "settled":
                a = column();
                b = flag ? number(0, 400) : day();
                due("settled(" + a + "," + b + ")", tower.settled(a, b), model.settledCall(a, b));
                break;
            case "load":
                a = column();
                b = day();
                due("load(" + a + "," + b + ")", tower.load(a, b), model.load(a, b));
                break;
            case "above":
                a = leanNear();
                due("above(" + a + ")", tower.above(a), model.above(a));
                break;
            case "force":
                a = day();
                due("force(" + a + ")", tower.force(a), model.force(a));
                break;
            case "may":
                a = number(0, 2);
                b = number(0, 1000);
                c = day();
                due("may(" + a + "," + b + "," + c + ")", tower.may(a, b, c), model.may(a, b, c));
                break;
            case "breaches":
                due("breaches()", tower.breaches(), model.breaches().size());
                break;
            case "breach":
                a = number(0, Math.max(1, model.breaches().size()));
                due("breach(" + a + ")", tower.breach(a), model.breach(a));
                break;
            case "right":
                a = act();
                due("right(" + a + ")", tower.right(a), model.right(a));
                break;
            case "fit":
                a = day();
                b = random.nextInt(8) == 0 ? day() : Math.min(399, a > 1000 ? a : a + random.nextInt(9));
                due("fit(" + a + "," + b + "," + flag + ")", tower.fit(a, b, flag), model.fit(a, b, flag));
                break;
            case "odd":
                a = day();
                b = random.nextInt(8) == 0 ? day() : Math.min(399, a > 1000 ? a : a + random.nextInt(9));
                due("odd(" + a + "," + b + ")", tower.odd(a, b), model.odd(a, b));
                break;
            default:
                soughtCall(name, flag);
        }
    }

    private void soughtCall(String name, boolean flag) {
        int a;
        int b;
        int c;
        int d;
        switch (name) {
            case "spoon":
                a = number(0, 2);
                b = column();
                c = number(0, flag ? 4 : 1000);
                due("spoon(" + a + "," + b + "," + c + ")", tower.spoon(a, b, c), model.spoon(a, b, c));
                break;
            case "spoons":
                a = day();
                b = number(1, random.nextInt(10) == 0 ? 8 : 5);
                c = leanNear() - (flag ? random.nextInt(1000000) : 0);
                d = number(0, random.nextInt(3) == 0 ? 1000000000 : 20000);
                due("spoons(" + a + "," + b + "," + c + "," + d + ")", tower.spoons(a, b, c, d),
                        model.spoons(a, b, c, d));
                for (int i = -1; i < 9 && random.nextBoolean(); i++) {
                    due("drawn(" + i + ")", tower.drawn(i), model.drawn(i));
                }
                break;
            case "drawn":
                a = number(0, 7);
                due("drawn(" + a + ")", tower.drawn(a), model.drawn(a));
                break;
            case "bursts":
                a = number(0, 7);
                b = leanNear();
                due("bursts(" + a + "," + b + ")", tower.bursts(a, b), model.bursts(a, b));
                break;
            case "first":
                a = number(0, flag ? 1000000 : 1000000000);
                b = number(1, flag ? 100000 : 10000000);
                boolean ring = random.nextBoolean();
                due("first(" + ring + "," + a + "," + b + ")", tower.first(ring, a, b), model.first(ring, a, b));
                break;
            case "cause":
                a = number(-20, 20);
                b = flag ? number(-1000000, 1000000) : a + random.nextInt(5);
                due("cause(" + a + "," + b + ")", tower.cause(a, b), model.cause(a, b));
                break;
            case "forget":
                due("forget()", tower.forget(), model.forget());
                break;
            case "lurch":
                a = flag ? number(-30, 30) : number(-1000000, 1000000);
                boolean sure = random.nextBoolean();
                due("lurch(" + a + "," + sure + ")", tower.lurch(a, sure), model.lurch(a, sure));
                break;
            case "sets":
                a = flag ? number(-30, 30) : number(-1000000, 1000000);
                due("sets(" + a + ")", tower.sets(a), model.sets(a));
                break;
            default:
                a = number(0, 4);
                due("all(" + a + ")", tower.all(a), model.all(a));
        }
    }

    private void feed(int[] five) {
        due("feed(" + Arrays.toString(five) + ")", tower.feed(five[0], five[1], five[2], five[3], five[4]),
                model.feed(five));
    }

    private void text(String text) {
        due("end(0)", tower.end(0), model.end(0));
        for (int at = 0; at < text.length() && at < 800; at += 20) {
            int[] five = new int[5];
            for (int i = 0; i < 20; i++) {
                five[i / 4] = five[i / 4] << 8 | (at + i < text.length() ? text.charAt(at + i) : 32);
            }
            feed(five);
        }
        int length = Math.min(800, text.length());
        due("end(" + length + ")", tower.end(length), model.end(length));
        int day = day();
        due("mandate(" + day + ") of " + text, tower.mandate(day), model.mandate(day));
        due("fault(0)", tower.fault(0), model.fault(0));
        due("fault(1)", tower.fault(1), model.fault(1));
        for (int i = 0; i < 3; i++) {
            int work = random.nextInt(3);
            int much = random.nextInt(1001);
            due("may(" + work + "," + much + "," + day + ")", tower.may(work, much, day), model.may(work, much, day));
        }
    }
}

/** Texts of mandates, good ones and spoiled ones. */
final class Texts {
    private final Random random;
    private final StringBuilder text = new StringBuilder();

    Texts(Random random) {
        this.random = random;
    }

    String some() {
        int statements = random.nextInt(12) == 0 ? 19 + random.nextInt(3) : random.nextInt(6);
        for (int i = 0; i < statements && text.length() < 700; i++) {
            statement(statements > 6 ? 0 : 3);
        }
        if (random.nextInt(3) == 0) {
            spoil();
        }
        return text.toString();
    }

    private void spoil() {
        int times = 1 + random.nextInt(3);
        String any = "abcdefghijlmnopqrstuvwxyz0123456789;()[]<>=+-*/, \n\t!AZ{`:/";
        String[] words = {"lean", "or", "and", "not", "all", "load", "min", "stop", "99999999", "abcdefghi", "16",
            "(((((((((", "[[[[[[[[[", "load 17", "load5", "5or", "limit"};
        for (int i = 0; i < times; i++) {
            int at = random.nextInt(text.length() + 1);
            switch (random.nextInt(5)) {
                case 0:
                    text.insert(at, any.charAt(random.nextInt(any.length())));
                    break;
                case 1:
                    if (at < text.length()) {
                        text.deleteCharAt(at);
                    }
                    break;
                case 2:
                    if (at < text.length()) {
                        text.setCharAt(at, (char) random.nextInt(256));
                    }
                    break;
                case 3:
                    text.insert(at, words[random.nextInt(words.length)]);
                    break;
                default:
                    text.setLength(at);
            }
        }
    }

    private void put(String token) {
        int blanks = random.nextInt(8) == 0 ? random.nextInt(3) : 0;
        if (text.length() > 0 && isWordy(text.charAt(text.length() - 1)) && isWordy(token.charAt(0))) {
            blanks = Math.max(1, blanks);
        }
        for (int i = 0; i < blanks; i++) {
            text.append(random.nextInt(5) == 0 ? '\n' : ' ');
        }
        text.append(token);
    }

    private static boolean isWordy(char c) {
        return c >= 'a' && c <= 'z' || c >= '0' && c <= '9';
    }

    private String of(String... some) {
        return some[random.nextInt(some.length)];
    }

    private void statement(int depth) {
        int kind = random.nextInt(5);
        if (kind == 0) {
            put("stop");
            put("when");
            test(depth);
        } else if (kind < 4) {
            put("allow");
            put(of("lead", "pipe", "frost"));
            put("when");
            test(depth);
        } else {
            put("limit");
            put(of("lead", "pipe", "frost"));
            sum(depth);
        }
        put(";");
    }

    private void test(int depth) {
        fact(depth);
        for (int i = 0; i < depth && random.nextInt(3) == 0; i++) {
            put(of("and", "or"));
            fact(depth - 1);
        }
    }

    private void fact(int depth) {
        int kind = random.nextInt(8);
        if (kind == 0) {
            put("all");
        } else if (kind == 1) {
            put("not");
            fact(depth);
        } else if (kind == 2 && depth > 0) {
            put("[");
            test(depth - 1 + random.nextInt(2));
            put("]");
        } else {
            sum(depth);
            put(of("<", ">", "="));
            sum(depth);
        }
    }

    private void sum(int depth) {
        part(depth);
        for (int i = 0; i < depth && random.nextInt(3) == 0; i++) {
            put(of("+", "-", "*", "/"));
            part(depth - 1);
        }
    }

    private void part(int depth) {
        int kind = random.nextInt(8);
        if (kind < 2) {
            put(of("0", "1", "2", "3", "10", "100", "500", "9999999", "0000020", "" + random.nextInt(10000000)));
        } else if (kind == 2 && depth > 0) {
            put("(");
            sum(depth - 1 + random.nextInt(2));
            put(")");
        } else if (kind == 3 && depth > 0) {
            put(of("min", "max"));
            put("(");
            sum(depth - 1);
            put(",");
            sum(depth - 1);
            put(")");
        } else if (kind == 4) {
            put("load");
            put("" + random.nextInt(16));
        } else {
            put(of("lean", "rate", "worst", "water", "day", "tons", "drawn"));
        }
    }
}

/** The document, as plainly as it can be put. */
final class Model {
    static final int LEAD = 0;
    static final int PIPE = 1;
    static final int FROST = 2;
    static final int READING = 3;
    static final int MANDATE = 4;
    static final int VOID = 5;

    /** kind; then what was told, a VOID telling of which act. */
    final List<int[]> acts = new ArrayList<>();
    private final Map<Integer, List<Token>> texts = new TreeMap<>();
    private final int[] stiff = new int[16];
    private final int[][] rings = new int[8][];
    private final TreeMap<Integer, Integer> water = new TreeMap<>();
    private final TreeMap<Integer, Integer> warmth = new TreeMap<>();
    private final int[][] gauges = {{0, 0, 1000}, {0, 0, 1000}, {0, 0, 1000}, {0, 0, 1000}};
    private final StringBuilder tape = new StringBuilder();
    private int as = -1;
    private int fault;
    private int place = -1;
    private final int[][] spoons = new int[3][2];
    private int[] drawn = new int[0];
    private final List<int[]> causes = new ArrayList<>();
    private long[][] history;

    Model() {
        Arrays.fill(stiff, 100);
        for (int i = 0; i < 8; i++) {
            rings[i] = new int[] {0, 0, 0, 10, 1000000};
        }
    }

    private static boolean in(long n, long least, long greatest) {
        return least <= n && n <= greatest;
    }

    private static int told(TreeMap<Integer, Integer> of, int day, int without) {
        Map.Entry<Integer, Integer> entry = of.floorEntry(day);
        return entry == null ? without : entry.getValue();
    }

    int feed(int[] five) {
        if (tape.length() + 20 > 800) {
            return -1;
        }
        for (int n : five) {
            tape.append((char) (n >>> 24)).append((char) (n >>> 16 & 255)).append((char) (n >>> 8 & 255))
                    .append((char) (n & 255));
        }
        return tape.length();
    }

    boolean end(int n) {
        if (!in(n, 0, tape.length())) {
            return false;
        }
        tape.setLength(n);
        return true;
    }

    boolean stiff(int column, int n) {
        if (!in(column, 0, 15) || !in(n, 1, 1000)) {
            return false;
        }
        stiff[column] = n;
        history = null;
        return true;
    }

    boolean ring(int ring, int tons, int high, int curve) {
        if (!in(ring, 0, 7) || !in(tons, 0, 5000) || !in(high, 0, 100) || !in(curve, -500, 500)) {
            return false;
        }
        rings[ring] = new int[] {tons, high, curve, rings[ring][3], rings[ring][4]};
        history = null;
        return true;
    }

    boolean stone(int ring, int wide, int bears) {
        if (!in(ring, 0, 7) || !in(wide, 1, 100) || !in(bears, 0, 1000000)) {
            return false;
        }
        rings[ring][3] = wide;
        rings[ring][4] = bears;
        return true;
    }

    boolean water(int day, int n) {
        if (!in(day, 0, 399) || !in(n, 0, 100)) {
            return false;
        }
        water.put(day, n);
        history = null;
        return true;
    }

    boolean warmth(int day, int n) {
        if (!in(day, 0, 399) || !in(n, -20, 50)) {
            return false;
        }
        warmth.put(day, n);
        return true;
    }

    boolean gauge(int gauge, int sun, int drift, int noise) {
        if (!in(gauge, 0, 3) || !in(sun, -100, 100) || !in(drift, -1000, 1000) || !in(noise, 0, 1000000)) {
            return false;
        }
        gauges[gauge] = new int[] {sun, drift, noise};
        return true;
    }

    private int tell(boolean can, int... act) {
        if (!can || acts.size() == 200) {
            return -1;
        }
        acts.add(act);
        history = null;
        return acts.size();
    }

    int lead(int tons, int arm, int from, int to) {
        boolean can = in(tons, 1, 1000) && in(arm, -20000, 20000) && in(from, 0, 399) && in(to, from, 399);
        return tell(can, LEAD, from, tons, arm, to);
    }

    int pipe(int day, int column, int litres) {
        return tell(in(day, 0, 399) && in(column, 0, 15) && in(litres, 1, 1000), PIPE, day, litres, column);
    }

    int frost(int day, int column) {
        return tell(in(day, 0, 399) && in(column, 0, 15), FROST, day, 1, column);
    }

    int reading(int gauge, int day, int n) {
        return tell(in(gauge, 0, 3) && in(day, 0, 399) && in(n, -1000000000, 1000000000), READING, day, n, gauge);
    }

    int mandate(int day) {
        String text = tape.toString();
        tape.setLength(0);
        if (!in(day, 0, 399) || acts.size() == 200) {
            return -2;
        }
        Grammar grammar = new Grammar(text);
        fault = grammar.fault;
        place = grammar.place;
        if (fault != 0) {
            return -1;
        }
        texts.put(acts.size() + 1, grammar.tokens);
        return tell(true, MANDATE, day);
    }

    int fault(int what) {
        return what == 0 ? fault : what == 1 ? place : -1;
    }

    int annul(int act) {
        if (!in(act, 1, acts.size()) || acts.get(act - 1)[0] == VOID) {
            return -1;
        }
        for (int[] other : acts) {
            if (other[0] == VOID && other[1] == act) {
                return -1;
            }
        }
        return tell(true, VOID, act);
    }

    boolean as(int act) {
        if (!in(act, -1, acts.size())) {
            return false;
        }
        as = act;
        history = null;
        return true;
    }

    private int at() {
        return as == -1 ? acts.size() : as;
    }

    private boolean known(int act) {
        if (act > at()) {
            return false;
        }
        for (int n = 1; n <= at(); n++) {
            if (acts.get(n - 1)[0] == VOID && acts.get(n - 1)[1] == act) {
                return false;
            }
        }
        return true;
    }

    private List<Integer> knownOf(int fromKind, int toKind) {
        List<Integer> found = new ArrayList<>();
        for (int n = 1; n <= acts.size(); n++) {
            if (in(acts.get(n - 1)[0], fromKind, toKind) && known(n)) {
                found.add(n);
            }
        }
        return found;
    }

    private static int x(int column) {
        return column * 2 - 15;
    }

    private static BigInteger floor(BigInteger a, BigInteger b) {
        BigInteger[] both = a.divideAndRemainder(b);
        return both[1].signum() != 0 && both[1].signum() != b.signum() ? both[0].subtract(BigInteger.ONE) : both[0];
    }

    private static long floor(long a, long b) {
        long q = a / b;
        return q * b > a ? q - 1 : q;
    }

    private static int leanOf(long[] settled) {
        long sum = 0;
        for (int c = 0; c < 16; c++) {
            sum += x(c) * settled[c];
        }
        long lean = floor(1000 * sum, 1360);
        return (int) (lean > 1000000000 ? 1000000000 : lean < -1000000000 ? -1000000000 : lean);
    }

    private long overhang(int ring, long lean) {
        return rings[ring][2] + floor(rings[ring][1] * lean, 1000000);
    }

    private long tonsOfLead(int day, List<Integer> works) {
        long sum = 0;
        for (int n : works) {
            int[] act = acts.get(n - 1);
            sum += act[0] == LEAD && in(day, act[1], act[4]) ? act[2] : 0;
        }
        return sum;
    }

    private long loadOf(int column, int day, long lean, List<Integer> works) {
        long total = tonsOfLead(day, works);
        long moment = 0;
        for (int ring = 0; ring < 8; ring++) {
            total += rings[ring][0];
            moment += rings[ring][0] * overhang(ring, lean);
        }
        for (int n : works) {
            int[] act = acts.get(n - 1);
            moment += act[0] == LEAD && in(day, act[1], act[4]) ? (long) act[2] * act[3] : 0;
        }
        long load = floor(total * 42500 + moment * x(column), 680000);
        return load < 0 ? 0 : load;
    }

    /** The ground ahead of the day behind, with so much more drawn out of a column. */
    private long[] live(long[] settled, int day, List<Integer> works, int column, int litres) {
        long[] next = settled.clone();
        int lean = leanOf(settled);
        for (int c = 0; c < 16; c++) {
            next[c] += loadOf(c, day, lean, works) * (100 + told(water, day, 50)) / (10 * stiff[c]);
        }
        for (int n : works) {
            int[] act = acts.get(n - 1);
            if (act[0] == PIPE && act[1] == day) {
                next[act[3]] += 50 * act[2];
            } else if (act[0] == FROST && act[1] == day) {
                next[act[3]] -= 2000;
            } else if (act[0] == FROST && act[1] == day - 1) {
                next[act[3]] += 3000;
            }
        }
        next[column] += 50 * litres;
        return next;
    }

    private long[][] history() {
        if (history == null) {
            history = new long[401][];
            history[0] = new long[16];
            List<Integer> works = knownOf(LEAD, FROST);
            for (int day = 0; day < 400; day++) {
                history[day + 1] = live(history[day], day, works, 0, 0);
            }
        }
        return history;
    }

    int lean(int day) {
        return leanOf(history()[day]);
    }

    int leanCall(int day) {
        return in(day, 0, 400) ? lean(day) : -2000000000;
    }

    long settledCall(int column, int day) {
        return in(column, 0, 15) && in(day, 0, 400) ? history()[day][column] : -1000000000000001L;
    }

    long load(int column, int day) {
        return in(column, 0, 15) && in(day, 0, 399) ? loadOf(column, day, lean(day), knownOf(LEAD, FROST)) : -1;
    }

    int above(int n) {
        for (int day = 0; day <= 400; day++) {
            if (lean(day) > n) {
                return day;
            }
        }
        return -1;
    }

    int force(int day) {
        int best = -1;
        if (in(day, 0, 399)) {
            for (int n : knownOf(MANDATE, MANDATE)) {
                if (acts.get(n - 1)[1] <= day && (best == -1 || acts.get(n - 1)[1] >= acts.get(best - 1)[1])) {
                    best = n;
                }
            }
        }
        return best;
    }

    int may(int work, int much, int day) {
        if (!in(work, 0, 2) || !in(much, 0, 1000) || !in(day, 0, 399)) {
            return -1;
        }
        if (force(day) == -1) {
            return 1;
        }
        Map<String, Long> facts = new TreeMap<>();
        List<Integer> works = knownOf(LEAD, FROST);
        facts.put("lean", (long) lean(day));
        facts.put("rate", day == 0 ? 0L : (long) lean(day) - lean(day - 1));
        long worst = 0;
        long litres = 0;
        for (int d = 0; d <= day; d++) {
            worst = d == 0 ? lean(0) : Math.max(worst, lean(d));
            for (int n : works) {
                litres += d < day && acts.get(n - 1)[0] == PIPE && acts.get(n - 1)[1] == d ? acts.get(n - 1)[2] : 0;
            }
        }
        facts.put("worst", worst);
        facts.put("water", (long) told(water, day, 50));
        facts.put("day", (long) day);
        facts.put("tons", tonsOfLead(day, works));
        facts.put("drawn", litres);
        for (int c = 0; c < 16; c++) {
            facts.put("load " + c, loadOf(c, day, lean(day), works));
        }
        return new Reckoner(texts.get(force(day)), facts).may(work, much);
    }

    List<Integer> breaches() {
        List<Integer> found = new ArrayList<>();
        for (int n : knownOf(LEAD, FROST)) {
            int[] act = acts.get(n - 1);
            if (may(act[0], act[2], act[1]) != 0) {
                found.add(n);
            }
        }
        return found;
    }

    int breach(int k) {
        List<Integer> found = breaches();
        return in(k, 0, found.size() - 1) ? found.get(k) : -1;
    }

    int right(int act) {
        if (!in(act, 1, acts.size()) || acts.get(act - 1)[0] != READING || !known(act)) {
            return -2000000000;
        }
        int[] told = acts.get(act - 1);
        int[] gauge = gauges[told[3]];
        return told[2] - gauge[0] * told(warmth, told[1], 0) - gauge[1] * told[1];
    }

    private List<Integer> readings(int from, int to) {
        List<Integer> found = new ArrayList<>();
        for (int n : knownOf(READING, READING)) {
            if (in(acts.get(n - 1)[1], from, to)) {
                found.add(n);
            }
        }
        return found;
    }

    private long[] bounds(List<Integer> readings, int from) {
        List<Long> lows = new ArrayList<>();
        List<Long> highs = new ArrayList<>();
        for (int n : readings) {
            int[] act = acts.get(n - 1);
            long brought = right(n) - ((long) lean(act[1]) - lean(from));
            lows.add(brought - gauges[act[3]][2]);
            highs.add(brought + gauges[act[3]][2]);
        }
        return new long[] {Collections.max(lows), Collections.min(highs)};
    }

    long fit(int from, int to, boolean upper) {
        if (!in(from, 0, 399) || !in(to, from, 399)) {
            return -2000000000;
        }
        List<Integer> readings = readings(from, to);
        if (readings.isEmpty()) {
            return -2000000001L;
        }
        long[] bounds = bounds(readings, from);
        return bounds[0] > bounds[1] ? -2000000002L : bounds[upper ? 1 : 0];
    }

    int odd(int from, int to) {
        if (fit(from, to, false) != -2000000002L) {
            return -1;
        }
        for (int n : readings(from, to)) {
            List<Integer> others = readings(from, to);
            others.remove((Integer) n);
            long[] bounds = bounds(others, from);
            if (bounds[0] <= bounds[1]) {
                return n;
            }
        }
        return -1;
    }

    boolean spoon(int k, int column, int litres) {
        if (!in(k, 0, 2) || !in(column, 0, 15) || !in(litres, 0, 1000)) {
            return false;
        }
        spoons[k] = new int[] {column, litres};
        return true;
    }

    private int least;
    private int[] best;

    int spoons(int day, int n, int aim, int slack) {
        if (!in(day, 0, 399) || !in(n, 1, 8) || !in((long) day + n - 1, 0, 399) || !in(slack, 0, 1000000000)) {
            return -1;
        }
        best = null;
        way(history()[day], day, new int[n], 0, new long[] {aim, (long) lean(day) + slack, 0});
        if (best == null) {
            return -1;
        }
        drawn = best;
        return least;
    }

    /** All ways, none left out; bounds are the aim, what no lean may be above, and the litres so far. */
    private void way(long[] settled, int day, int[] choice, int i, long[] bounds) {
        if (i > 0 && leanOf(settled) > bounds[1]) {
            return;
        }
        if (i == choice.length) {
            if (leanOf(settled) <= bounds[0] && (best == null || bounds[2] < least)) {
                best = choice.clone();
                least = (int) bounds[2];
            }
            return;
        }
        long[] none = live(settled, day + i, knownOf(LEAD, FROST), 0, 0);
        for (int k = -1; k < 3; k++) {
            if (k >= 0 && spoons[k][1] == 0) {
                continue;
            }
            long[] next = none.clone();
            long[] with = bounds.clone();
            if (k >= 0) {
                next[spoons[k][0]] += 50 * spoons[k][1];
                with[2] += spoons[k][1];
            }
            choice[i] = k;
            way(next, day, choice, i + 1, with);
        }
    }

    int drawn(int i) {
        return !in(i, 0, drawn.length - 1) ? -1 : drawn[i] == -1 ? -2 : drawn[i];
    }

    int bursts(int ring, int lean) {
        if (!in(ring, 0, 7) || !in(lean, -1000000000, 1000000000)) {
            return -1;
        }
        return burstsAt(ring, lean) ? 1 : 0;
    }

    private boolean burstsAt(int ring, long lean) {
        long w = 0;
        long m = 0;
        for (int above = ring; above < 8; above++) {
            w += rings[above][0];
            m += rings[above][0] * (overhang(above, lean) - overhang(ring, lean));
        }
        return w * 1000 + Math.abs(m) / rings[ring][3] > rings[ring][4];
    }

    int first(boolean ring, int from, int step) {
        if (!in(from, 0, 1000000000) || !in(step, 1, 10000000)) {
            return -1;
        }
        for (int i = 0; i < 200; i++) {
            long lean = from + (long) i * step;
            for (int r = 0; r < 8; r++) {
                if (lean <= 1000000000 && burstsAt(r, lean)) {
                    return ring ? r : (int) lean;
                }
            }
        }
        return -1;
    }

    int cause(int least, int greatest) {
        if (!in(least, -1000000, 1000000) || !in(greatest, least, 1000000) || causes.size() == 10) {
            return -1;
        }
        causes.add(new int[] {least, greatest});
        return causes.size() - 1;
    }

    int forget() {
        int were = causes.size();
        causes.clear();
        return were;
    }

    private List<Integer> setsOf(int n) {
        List<Integer> found = new ArrayList<>();
        for (int set = 0; set < 1 << causes.size(); set++) {
            long low = 0;
            long high = 0;
            for (int i = 0; i < causes.size(); i++) {
                low += (set >> i & 1) * causes.get(i)[0];
                high += (set >> i & 1) * causes.get(i)[1];
            }
            if (in(n, low, high)) {
                found.add(set);
            }
        }
        return found;
    }

    int lurch(int n, boolean sure) {
        if (!in(n, -1000000, 1000000)) {
            return -1;
        }
        List<Integer> sets = setsOf(n);
        if (sets.isEmpty()) {
            return -2;
        }
        int bits = 0;
        for (int i = 0; i < causes.size(); i++) {
            int have = 0;
            for (int set : sets) {
                have += set >> i & 1;
            }
            bits |= (sure ? have == sets.size() : have > 0) ? 1 << i : 0;
        }
        return bits;
    }

    int sets(int n) {
        return in(n, -1000000, 1000000) ? setsOf(n).size() : -1;
    }

    int all(int what) {
        switch (what) {
            case 0: return acts.size();
            case 1: return at();
            case 2: return knownOf(READING, READING).size();
            case 3: return knownOf(LEAD, FROST).size();
            case 4: return causes.size();
            default: return -1;
        }
    }

    static BigInteger quotient(BigInteger a, BigInteger b) {
        return b.signum() == 0 ? BigInteger.ZERO : floor(a, b);
    }
}

/** A word, a number or a sign of a text; "" at its end, "too long" at a 9th letter or an 8th digit. */
final class Token {
    final String text;
    final int at;
    final int faultAt;

    Token(String text, int at, int faultAt) {
        this.text = text;
        this.at = at;
        this.faultAt = faultAt;
    }
}

/** Reads a text with a table and a stack of what is still to come. */
final class Grammar {
    private static final String FACTS = " lean rate worst water day tons drawn ";

    final List<Token> tokens = new ArrayList<>();
    int fault;
    int place = -1;

    Grammar(String text) {
        split(text);
        Deque<String> due = new ArrayDeque<>();
        int open = 0;
        int statements = 0;
        int i = 0;
        while (fault == 0) {
            Token token = tokens.get(i);
            if (due.isEmpty()) {
                if (token.text.isEmpty()) {
                    break;
                }
                statements++;
                if (statements == 21) {
                    refuse(5, token.at);
                    break;
                }
                push(due, "STATEMENT ;");
            }
            if (token.faultAt >= 0) {
                refuse(1, token.faultAt);
                break;
            }
            String next = due.pop();
            String turned = turned(next, token.text);
            if (turned != null) {
                push(due, turned);
            } else if (next.equals("COLUMN") && isNumber(token.text) && Integer.parseInt(token.text) > 15) {
                refuse(4, token.at);
            } else if (!fits(next, token.text)) {
                refuse(1, token.at);
            } else if ("([".contains(next) && open == 8) {
                refuse(5, token.at);
            } else {
                open += "([".contains(next) ? 1 : ")]".contains(next) ? -1 : 0;
                i++;
            }
        }
    }

    private void refuse(int what, int where) {
        fault = what;
        place = where;
    }

    private static void push(Deque<String> due, String symbols) {
        String[] some = symbols.trim().split(" ");
        for (int i = some.length - 1; i >= 0; i--) {
            if (!some[i].isEmpty()) {
                due.push(some[i]);
            }
        }
    }

    /** What a symbol turns to ahead of a token; null, if it is to be met itself. */
    private static String turned(String symbol, String token) {
        switch (symbol) {
            case "STATEMENT":
                return token.equals("stop") ? "stop when TEST" : token.equals("allow") ? "allow WORK when TEST"
                        : "limit WORK SUM";
            case "TEST":
                return "BOTH ORS";
            case "ORS":
                return token.equals("or") ? "or BOTH ORS" : "";
            case "BOTH":
                return "FACT ANDS";
            case "ANDS":
                return token.equals("and") ? "and FACT ANDS" : "";
            case "FACT":
                return token.equals("not") ? "not FACT" : token.equals("[") ? "[ TEST ]" : token.equals("all") ? "all"
                        : "SUM SIGN SUM";
            case "SUM":
                return "PRODUCT MORE";
            case "MORE":
                return token.equals("+") || token.equals("-") ? token + " PRODUCT MORE" : "";
            case "PRODUCT":
                return "PART TIMES";
            case "TIMES":
                return token.equals("*") || token.equals("/") ? token + " PART TIMES" : "";
            case "PART":
                return token.equals("load") ? "load COLUMN" : token.equals("(") ? "( SUM )"
                        : token.equals("min") || token.equals("max") ? token + " ( SUM , SUM )" : "PLAIN";
            default:
                return null;
        }
    }

    private static boolean fits(String symbol, String token) {
        switch (symbol) {
            case "WORK":
                return token.equals("lead") || token.equals("pipe") || token.equals("frost");
            case "SIGN":
                return token.equals("<") || token.equals(">") || token.equals("=");
            case "COLUMN":
                return isNumber(token);
            case "PLAIN":
                return isNumber(token) || !token.isEmpty() && FACTS.contains(" " + token + " ");
            default:
                return symbol.equals(token);
        }
    }

    private static boolean isNumber(String token) {
        return token.matches("[0-9]{1,7}");
    }

    private void split(String text) {
        int at = 0;
        while (true) {
            while (at < text.length() && (text.charAt(at) == ' ' || text.charAt(at) == '\n')) {
                at++;
            }
            if (at == text.length()) {
                tokens.add(new Token("", at, -1));
                return;
            }
            String rest = text.substring(at);
            int letters = rest.length() - rest.replaceFirst("(?s)^[a-z]+", "").length();
            int digits = rest.length() - rest.replaceFirst("(?s)^[0-9]+", "").length();
            boolean glued = letters + digits > 0 && at > 0 && text.substring(at - 1, at).matches("[a-z0-9]");
            int length = Math.max(1, Math.max(letters, digits));
            int faultAt = glued ? at : letters > 8 ? at + 8 : digits > 7 ? at + 7 : -1;
            tokens.add(new Token(rest.substring(0, length), at, faultAt));
            at += length;
        }
    }
}

/** Reckons a text on a day. */
final class Reckoner {
    private static final BigInteger MOST = BigInteger.TEN.pow(12);

    private final List<Token> tokens;
    private final Map<String, Long> facts;
    private int i;

    Reckoner(List<Token> tokens, Map<String, Long> facts) {
        this.tokens = tokens;
        this.facts = facts;
    }

    private String peek() {
        return tokens.get(i).text;
    }

    private String take() {
        i++;
        return tokens.get(i - 1).text;
    }

    private boolean takes(String text) {
        if (peek().equals(text)) {
            i++;
            return true;
        }
        return false;
    }

    int may(int work, int much) {
        String name = new String[] {"lead", "pipe", "frost"}[work];
        List<Integer> why = new ArrayList<>();
        boolean allowed = false;
        while (!peek().isEmpty()) {
            String kind = take();
            String whose = kind.equals("stop") ? "" : take();
            if (kind.equals("limit")) {
                if (BigInteger.valueOf(much).compareTo(sum()) > 0 && whose.equals(name)) {
                    why.add(4);
                }
            } else {
                take();
                boolean holds = test();
                if (holds && kind.equals("stop")) {
                    why.add(2);
                }
                allowed |= holds && kind.equals("allow") && whose.equals(name);
            }
            take();
        }
        if (!allowed) {
            why.add(3);
        }
        return why.isEmpty() ? 0 : Collections.min(why);
    }

    private boolean test() {
        boolean holds = both();
        while (takes("or")) {
            holds = both() || holds;
        }
        return holds;
    }

    private boolean both() {
        boolean holds = fact();
        while (takes("and")) {
            holds = fact() && holds;
        }
        return holds;
    }

    private boolean fact() {
        if (takes("not")) {
            return !fact();
        }
        if (takes("all")) {
            return true;
        }
        if (takes("[")) {
            boolean holds = test();
            take();
            return holds;
        }
        BigInteger left = sum();
        String sign = take();
        int order = left.compareTo(sum());
        return sign.equals("<") ? order < 0 : sign.equals(">") ? order > 0 : order == 0;
    }

    private static BigInteger bounded(BigInteger n) {
        return n.min(MOST).max(MOST.negate());
    }

    private BigInteger sum() {
        BigInteger n = product();
        while (peek().equals("+") || peek().equals("-")) {
            n = take().equals("+") ? bounded(n.add(product())) : bounded(n.subtract(product()));
        }
        return n;
    }

    private BigInteger product() {
        BigInteger n = part();
        while (peek().equals("*") || peek().equals("/")) {
            n = take().equals("*") ? bounded(n.multiply(part())) : Model.quotient(n, part());
        }
        return n;
    }

    private BigInteger part() {
        String what = take();
        if (what.equals("(")) {
            BigInteger n = sum();
            take();
            return n;
        }
        if (what.equals("min") || what.equals("max")) {
            take();
            BigInteger a = sum();
            take();
            BigInteger b = sum();
            take();
            return what.equals("min") ? a.min(b) : a.max(b);
        }
        if (what.equals("load")) {
            return BigInteger.valueOf(facts.get("load " + Integer.parseInt(take())));
        }
        return facts.containsKey(what) ? BigInteger.valueOf(facts.get(what)) : new BigInteger(what);
    }
}

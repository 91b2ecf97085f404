import java.util.Arrays;

/** A tower that leans on clay, its book of works, its mandates and gauges; README.md says how to use it. */
public final class LeaningTower {
    public static final int NONE = -1;

    private static final int DAYS = 400;
    private static final int COLUMNS = 16;
    private static final int RINGS = 8;
    private static final int GAUGES = 4;
    private static final int ACTS = 200;
    private static final int TAPE = 800;
    private static final int STATEMENTS = 20;
    private static final int OPEN_AT_ONCE = 8;
    private static final int LETTERS = 8;
    private static final int DIGITS = 7;
    private static final int PIPES = 3;
    private static final int SPOON_DAYS = 8;
    private static final int CAUSES = 10;
    private static final int MILLION = 1000000;
    private static final int BILLION = 1000000000;
    private static final long GREATEST = 1000000000000L;

    private static final int NO_LEAN = -2000000000;
    private static final long NO_READINGS = -2000000001L;
    private static final long NO_BOUNDS = -2000000002L;
    private static final long NO_SETTLED = -1000000000000001L;
    private static final int NO_DAY = -2;
    private static final int NO_SET = -2;
    private static final int NONE_DRAWN = -2;

    // The works: kinds of an act, WORKS of a call and words of a mandate alike.
    private static final int LEAD = 0;
    private static final int PIPE = 1;
    private static final int FROST = 2;
    // The other kinds of an act.
    private static final int READING = 3;
    private static final int MANDATE = 4;
    private static final int VOID = 5;

    // The other words of a mandate; those from OR on are steps of its code, too.
    private static final int STOP = 3;
    private static final int ALLOW = 4;
    private static final int LIMIT = 5;
    private static final int WHEN = 6;
    private static final int OR = 7;
    private static final int AND = 8;
    private static final int NOT = 9;
    private static final int ALL = 10;
    private static final int LEAN = 11;
    private static final int RATE = 12;
    private static final int WORST = 13;
    private static final int WATER = 14;
    private static final int DAY = 15;
    private static final int TONS = 16;
    private static final int DRAWN = 17;
    private static final int LOAD = 18;
    private static final int MIN = 19;
    private static final int MAX = 20;
    // Numbers and signs that are steps of the code.
    private static final int NUMBER = 21;
    private static final int PLUS = 22;
    private static final int MINUS = 23;
    private static final int TIMES = 24;
    private static final int OVER = 25;
    private static final int LESS = 26;
    private static final int MORE = 27;
    private static final int SAME = 28;
    /** A cell of code is a step and so many times its number. */
    private static final int STEPS = 32;
    // What else a text is made of.
    private static final int OPEN = 32;
    private static final int CLOSE = 33;
    private static final int OPEN_TEST = 34;
    private static final int CLOSE_TEST = 35;
    private static final int COMMA = 36;
    private static final int SEMICOLON = 37;
    private static final int END = 38;
    private static final int BAD = 39;
    private static final int BLANK = 40;

    private final Told wet;
    private final Told warm;
    private final Stones stones;
    private final Days days;
    private final Book book;
    private final Reader reader;
    private final Judge judge;
    private final Gauges gauges;
    private final Spooner spooner;
    private final Causes causes;

    public LeaningTower() {
        wet = new Told(50);
        warm = new Told(0);
        stones = new Stones();
        days = new Days(wet, stones);
        book = new Book(days);
        reader = new Reader();
        judge = new Judge(book, days, wet);
        gauges = new Gauges(book, days, warm);
        spooner = new Spooner(days);
        causes = new Causes();
    }

    public int feed(int a, int b, int c, int d, int e) {
        if (!reader.hasRoom()) {
            return NONE;
        }
        reader.write(a);
        reader.write(b);
        reader.write(c);
        reader.write(d);
        reader.write(e);
        return reader.size();
    }

    public boolean end(int n) {
        return reader.cut(n);
    }

    public boolean stiff(int column, int n) {
        if (!isColumn(column) || !isWithin(n, 1, 1000)) {
            return false;
        }
        days.stiffen(column, n);
        return true;
    }

    public boolean ring(int ring, int tons, int high, int curve) {
        if (!isRing(ring) || !isWithin(tons, 0, 5000) || !isWithin(high, 0, 100) || !isWithin(curve, -500, 500)) {
            return false;
        }
        stones.lay(ring, tons, high, curve);
        days.spoil(0);
        return true;
    }

    public boolean stone(int ring, int wide, int bears) {
        if (!isRing(ring) || !isWithin(wide, 1, 100) || !isWithin(bears, 0, MILLION)) {
            return false;
        }
        stones.hew(ring, wide, bears);
        return true;
    }

    public boolean water(int day, int n) {
        if (!isDay(day) || !isWithin(n, 0, 100)) {
            return false;
        }
        wet.tell(day, n);
        days.spoil(day);
        return true;
    }

    public boolean warmth(int day, int n) {
        if (!isDay(day) || !isWithin(n, -20, 50)) {
            return false;
        }
        warm.tell(day, n);
        return true;
    }

    public boolean gauge(int gauge, int sun, int drift, int noise) {
        if (!isGauge(gauge) || !isWithin(sun, -100, 100) || !isWithin(drift, -1000, 1000)
                || !isWithin(noise, 0, MILLION)) {
            return false;
        }
        gauges.set(gauge, sun, drift, noise);
        return true;
    }

    public int lead(int tons, int arm, int from, int to) {
        if (!isWithin(tons, 1, 1000) || !isWithin(arm, -20000, 20000) || !areDays(from, to)) {
            return NONE;
        }
        return book.write(new Act(LEAD, from, to, 0, tons, arm, null));
    }

    public int pipe(int day, int column, int litres) {
        if (!isDay(day) || !isColumn(column) || !isWithin(litres, 1, 1000)) {
            return NONE;
        }
        return book.write(new Act(PIPE, day, day, column, litres, 0, null));
    }

    public int frost(int day, int column) {
        if (!isDay(day) || !isColumn(column)) {
            return NONE;
        }
        return book.write(new Act(FROST, day, day, column, 1, 0, null));
    }

    public int reading(int gauge, int day, int n) {
        if (!isGauge(gauge) || !isDay(day) || !isWithin(n, -BILLION, BILLION)) {
            return NONE;
        }
        return book.write(new Act(READING, day, day, gauge, n, 0, null));
    }

    public int mandate(int day) {
        if (!isDay(day) || book.isFull()) {
            reader.drop();
            return NO_DAY;
        }
        int[] code = reader.read();
        return code == null ? NONE : book.write(new Act(MANDATE, day, day, 0, 0, 0, code));
    }

    public int fault(int what) {
        if (what == 0) {
            return reader.faultFound();
        }
        return what == 1 ? reader.faultPlace() : NONE;
    }

    public int annul(int act) {
        return book.strike(act);
    }

    public boolean as(int act) {
        return book.turnTo(act);
    }

    public int lean(int day) {
        if (!isWithin(day, 0, DAYS)) {
            return NO_LEAN;
        }
        days.reach(day);
        return days.leanAt(day);
    }

    public long settled(int column, int day) {
        if (!isColumn(column) || !isWithin(day, 0, DAYS)) {
            return NO_SETTLED;
        }
        days.reach(day);
        return days.settledAt(column, day);
    }

    public int load(int column, int day) {
        if (!isColumn(column) || !isDay(day)) {
            return NONE;
        }
        days.reach(day);
        return (int) days.loadOf(column, days.totalOn(day), days.momentOn(day, days.leanAt(day)));
    }

    public int above(int n) {
        for (int day = 0; day <= DAYS; day++) {
            days.reach(day);
            if (days.leanAt(day) > n) {
                return day;
            }
        }
        return NONE;
    }

    public int force(int day) {
        return isDay(day) ? judge.ruling(day) : NONE;
    }

    public int may(int work, int much, int day) {
        if (!isWithin(work, LEAD, FROST) || !isWithin(much, 0, 1000) || !isDay(day)) {
            return NONE;
        }
        days.reach(day);
        return judge.verdict(work, much, day);
    }

    public int breaches() {
        days.reach(DAYS);
        judge.findBreaches();
        return judge.breachCount();
    }

    public int breach(int k) {
        days.reach(DAYS);
        judge.findBreaches();
        return judge.breachAt(k);
    }

    public int right(int act) {
        Act told = book.act(act);
        return told != null && told.known && told.kind == READING ? gauges.putRight(told) : NO_LEAN;
    }

    public long fit(int from, int to, boolean upper) {
        if (!areDays(from, to)) {
            return NO_LEAN;
        }
        days.reach(to);
        gauges.gather(from, to);
        return gauges.bound(upper);
    }

    public int odd(int from, int to) {
        if (!areDays(from, to)) {
            return NONE;
        }
        days.reach(to);
        gauges.gather(from, to);
        return gauges.oddOne();
    }

    public boolean spoon(int k, int column, int litres) {
        if (!isWithin(k, 0, PIPES - 1) || !isColumn(column) || !isWithin(litres, 0, 1000)) {
            return false;
        }
        spooner.tell(k, column, litres);
        return true;
    }

    public int spoons(int day, int n, int aim, int slack) {
        if (!isDay(day) || !isWithin(n, 1, SPOON_DAYS) || day + n > DAYS || !isWithin(slack, 0, BILLION)) {
            return NONE;
        }
        days.reach(day);
        return spooner.search(day, n, aim, slack);
    }

    public int drawn(int i) {
        return spooner.drawnOn(i);
    }

    public int bursts(int ring, int lean) {
        if (!isRing(ring) || !isWithin(lean, -BILLION, BILLION)) {
            return NONE;
        }
        return stones.lowestBurst(lean, ring, ring) == ring ? 1 : 0;
    }

    public int first(boolean ring, int from, int step) {
        if (!isWithin(from, 0, BILLION) || !isWithin(step, 1, 10000000)) {
            return NONE;
        }
        long lean = from;
        // No LEAN is above BILLION: what would lie behind it is not looked at.
        for (int i = 0; i < 200 && lean <= BILLION; i++) {
            int lowest = stones.lowestBurst(lean, 0, RINGS - 1);
            if (lowest != NONE) {
                return ring ? lowest : (int) lean;
            }
            lean += step;
        }
        return NONE;
    }

    public int cause(int least, int greatest) {
        if (!isWithin(least, -MILLION, MILLION) || !isWithin(greatest, -MILLION, MILLION) || least > greatest) {
            return NONE;
        }
        return causes.tell(least, greatest);
    }

    public int forget() {
        return causes.clear();
    }

    public int lurch(int n, boolean sure) {
        if (!isWithin(n, -MILLION, MILLION)) {
            return NONE;
        }
        causes.weigh(n);
        return causes.found(sure);
    }

    public int sets(int n) {
        if (!isWithin(n, -MILLION, MILLION)) {
            return NONE;
        }
        causes.weigh(n);
        return causes.setCount();
    }

    public int all(int what) {
        switch (what) {
            case 0:
                return book.size();
            case 1:
                return book.knownAt();
            case 2:
                return book.countKnown(READING, READING);
            case 3:
                return book.countKnown(LEAD, FROST);
            case 4:
                return causes.size();
            default:
                return NONE;
        }
    }

    private static boolean isWithin(long n, long least, long greatest) {
        return n >= least && n <= greatest;
    }

    private static boolean isDay(int day) {
        return day >= 0 && day < DAYS;
    }

    private static boolean areDays(int from, int to) {
        return from >= 0 && from <= to && to < DAYS;
    }

    private static boolean isColumn(int column) {
        return column >= 0 && column < COLUMNS;
    }

    private static boolean isRing(int ring) {
        return ring >= 0 && ring < RINGS;
    }

    private static boolean isGauge(int gauge) {
        return gauge >= 0 && gauge < GAUGES;
    }

    /** How far to the south a column stands. */
    private static int southOf(int column) {
        return 2 * column - 15;
    }

    /** LEAN by the sum of X times SETTLED. */
    private static int leanOf(long sum) {
        return (int) Math.max(-BILLION, Math.min(BILLION, Math.floorDiv(1000L * sum, 1360L)));
    }

    /** A number of every day, as told of it or of the nearest day ahead. */
    private static final class Told {
        private final int[] number = new int[DAYS];
        private final boolean[] told = new boolean[DAYS];

        Told(int without) {
            Arrays.fill(number, without);
        }

        void tell(int day, int n) {
            if (!isDay(day)) {
                return;
            }
            told[day] = true;
            number[day] = n;
            for (int d = day + 1; d < DAYS && !told[d]; d++) {
                number[d] = n;
            }
        }

        int on(int day) {
            return isDay(day) ? number[day] : 0;
        }
    }

    /** The rings of stone. */
    private static final class Stones {
        private final int[] tons = new int[RINGS];
        private final int[] high = new int[RINGS];
        private final int[] curve = new int[RINGS];
        private final int[] wide = new int[RINGS];
        private final int[] bears = new int[RINGS];

        Stones() {
            Arrays.fill(wide, 10);
            Arrays.fill(bears, MILLION);
        }

        void lay(int ring, int newTons, int newHigh, int newCurve) {
            if (isRing(ring)) {
                tons[ring] = newTons;
                high[ring] = newHigh;
                curve[ring] = newCurve;
            }
        }

        void hew(int ring, int newWide, int newBears) {
            if (isRing(ring)) {
                wide[ring] = newWide;
                bears[ring] = newBears;
            }
        }

        long weight() {
            long sum = 0;
            for (int ring = 0; ring < RINGS; ring++) {
                sum += tons[ring];
            }
            return sum;
        }

        long momentAt(long lean) {
            long sum = 0;
            for (int ring = 0; ring < RINGS; ring++) {
                sum += tons[ring] * overhang(ring, lean);
            }
            return sum;
        }

        /** The least ring from a ring up to a ring that bursts at a lean; NONE without. */
        int lowestBurst(long lean, int from, int to) {
            long weight = 0;
            long moment = 0;
            int lowest = NONE;
            for (int ring = RINGS - 1; ring >= 0 && ring >= from; ring--) {
                long own = overhang(ring, lean);
                weight += tons[ring];
                moment += tons[ring] * own;
                // The sum of TONS times (OVERHANG less its own), its own taken out of all at once.
                long turned = Math.abs(moment - weight * own);
                if (ring <= to && wide[ring] > 0 && weight * 1000 + turned / wide[ring] > bears[ring]) {
                    lowest = ring;
                }
            }
            return lowest;
        }

        private long overhang(int ring, long lean) {
            return isRing(ring) ? curve[ring] + Math.floorDiv(high[ring] * lean, (long) MILLION) : 0;
        }
    }

    /** What the book tells as one number. */
    private static final class Act {
        private final int kind;
        private final int from;
        private final int to;
        /** The column or the gauge. */
        private final int where;
        /** Tons, litres, 1 of frost, or what a reading tells. */
        private final int much;
        private final int arm;
        private final int[] code;
        /** The act by which this one is void; 0 without. */
        private int voidBy;
        private boolean known;

        Act(int kind, int from, int to, int where, int much, int arm, int[] code) {
            this.kind = kind;
            this.from = from;
            this.to = to;
            this.where = where;
            this.much = much;
            this.arm = arm;
            this.code = code;
        }

        boolean isKnown(int ofKind) {
            return known && kind == ofKind;
        }

        boolean isWork() {
            return kind >= LEAD && kind <= FROST;
        }
    }

    /** The acts, and which of them are known. */
    private static final class Book {
        private final Days days;
        private final Act[] acts = new Act[ACTS];
        private int count;
        private int asOf = NONE;
        private int changes;

        Book(Days days) {
            this.days = days;
        }

        int size() {
            return count;
        }

        boolean isFull() {
            return count >= ACTS;
        }

        int changeCount() {
            return changes;
        }

        int knownAt() {
            return asOf == NONE ? count : asOf;
        }

        Act act(int n) {
            return n >= 1 && n <= count && n <= ACTS ? acts[n - 1] : null;
        }

        int write(Act act) {
            if (isFull()) {
                return NONE;
            }
            acts[count] = act;
            count++;
            learn();
            return count;
        }

        int strike(int n) {
            Act act = act(n);
            if (act == null || act.kind == VOID || act.voidBy != 0 || isFull()) {
                return NONE;
            }
            act.voidBy = count + 1;
            return write(new Act(VOID, 0, 0, 0, 0, 0, null));
        }

        boolean turnTo(int n) {
            if (n < NONE || n > count) {
                return false;
            }
            asOf = n;
            learn();
            return true;
        }

        int countKnown(int fromKind, int toKind) {
            int sum = 0;
            for (int n = 1; n <= count; n++) {
                Act act = act(n);
                if (act != null && act.known && act.kind >= fromKind && act.kind <= toKind) {
                    sum++;
                }
            }
            return sum;
        }

        /** Finds which acts are known now; the days hear of those alone that were not so before. */
        private void learn() {
            int at = knownAt();
            for (int n = 1; n <= count; n++) {
                Act act = act(n);
                if (act == null) {
                    continue;
                }
                boolean known = n <= at && (act.voidBy == 0 || act.voidBy > at);
                if (known != act.known) {
                    act.known = known;
                    changes++;
                    days.take(act, known ? 1 : -1);
                }
            }
        }
    }

    /** The ground, day by day, by the works known; days are reckoned when they are asked for. */
    private static final class Days {
        private final Told wet;
        private final Stones stones;
        private final int[] stiff = new int[COLUMNS];
        private final int[] leadTons = new int[DAYS];
        private final long[] leadMoment = new long[DAYS];
        private final int[] litres = new int[DAYS];
        /** What pipes and frost give a column on a day. */
        private final int[][] worked = new int[COLUMNS][DAYS];
        private final long[][] settled = new long[COLUMNS][DAYS + 1];
        private final int[] lean = new int[DAYS + 1];
        private final int[] worst = new int[DAYS + 1];
        private final int[] drawn = new int[DAYS + 1];
        /** The rows above hold what is so ahead of the days up to this one. */
        private int reached;
        private int changes;

        Days(Told wet, Stones stones) {
            this.wet = wet;
            this.stones = stones;
            Arrays.fill(stiff, 100);
        }

        int changeCount() {
            return changes;
        }

        void stiffen(int column, int n) {
            if (isColumn(column)) {
                stiff[column] = n;
                spoil(0);
            }
        }

        /** What is reckoned behind a day's beginning must be reckoned anew. */
        void spoil(int day) {
            reached = Math.max(0, Math.min(reached, day));
            changes++;
        }

        /** A work becomes known (sign 1) or unknown (-1). */
        void take(Act act, int sign) {
            if (!act.isWork() || !areDays(act.from, act.to) || !isColumn(act.where)) {
                return;
            }
            if (act.kind == LEAD) {
                for (int day = act.from; day <= act.to; day++) {
                    leadTons[day] += sign * act.much;
                    leadMoment[day] += (long) sign * act.much * act.arm;
                }
            } else if (act.kind == PIPE) {
                litres[act.from] += sign * act.much;
                worked[act.where][act.from] += sign * 50 * act.much;
            } else {
                worked[act.where][act.from] -= sign * 2000;
                if (isDay(act.from + 1)) {
                    worked[act.where][act.from + 1] += sign * 3000;
                }
            }
            spoil(act.from);
        }

        void reach(int day) {
            for (int d = reached; d < day && d < DAYS; d++) {
                live(d);
                reached = d + 1;
            }
        }

        int leanAt(int day) {
            return isWithin(day, 0, DAYS) ? lean[day] : 0;
        }

        int worstAt(int day) {
            return isWithin(day, 0, DAYS) ? worst[day] : 0;
        }

        int drawnAt(int day) {
            return isWithin(day, 0, DAYS) ? drawn[day] : 0;
        }

        int leadOn(int day) {
            return isDay(day) ? leadTons[day] : 0;
        }

        long settledAt(int column, int day) {
            return isColumn(column) && isWithin(day, 0, DAYS) ? settled[column][day] : 0;
        }

        long totalOn(int day) {
            return stones.weight() + leadOn(day);
        }

        long momentOn(int day, int atLean) {
            return stones.momentAt(atLean) + (isDay(day) ? leadMoment[day] : 0);
        }

        long loadOf(int column, long total, long moment) {
            return Math.max(0L, Math.floorDiv(total * 42500 + moment * southOf(column), 680000L));
        }

        /** The sum of X times SETTLED ahead of a day. */
        long sumAt(int day) {
            long sum = 0;
            for (int column = 0; column < COLUMNS; column++) {
                sum += southOf(column) * settledAt(column, day);
            }
            return sum;
        }

        /** How much more that sum becomes on a day that begins at a lean. */
        long sumGrowth(int day, int atLean) {
            long total = totalOn(day);
            long moment = momentOn(day, atLean);
            long sum = 0;
            for (int column = 0; column < COLUMNS; column++) {
                sum += southOf(column) * given(column, day, total, moment);
            }
            return sum;
        }

        private void live(int day) {
            if (!isDay(day)) {
                return;
            }
            long total = totalOn(day);
            long moment = momentOn(day, lean[day]);
            long sum = 0;
            for (int column = 0; column < COLUMNS; column++) {
                long now = settled[column][day] + given(column, day, total, moment);
                settled[column][day + 1] = now;
                sum += southOf(column) * now;
            }
            lean[day + 1] = leanOf(sum);
            worst[day + 1] = Math.max(worst[day], lean[day + 1]);
            drawn[day + 1] = drawn[day] + litres[day];
        }

        private long given(int column, int day, long total, long moment) {
            if (!isColumn(column) || !isDay(day) || stiff[column] < 1) {
                return 0;
            }
            long pressed = loadOf(column, total, moment) * (100 + wet.on(day));
            return pressed / (10 * stiff[column]) + worked[column][day];
        }
    }

    /** The tape, and its reading as the code of a mandate. */
    private static final class Reader {
        private final byte[] text = new byte[TAPE];
        private int length;
        /** Of each token of the text: what it is, its first byte, its byte at fault if it may not stand, its number. */
        private final int[] kinds = new int[TAPE + 1];
        private final int[] starts = new int[TAPE + 1];
        private final int[] wrongs = new int[TAPE + 1];
        private final int[] numbers = new int[TAPE + 1];
        private int tokens;
        /** The token at hand, and how many have been at hand. */
        private int token;
        private int start;
        private int wrong;
        private int number;
        private int gone;
        private int fault;
        private int place = NONE;
        /** Of each statement: its word, its work, how many cells; its cells. */
        private final int[] code = new int[TAPE];
        private int cells;

        int size() {
            return length;
        }

        boolean hasRoom() {
            return length + 20 <= TAPE;
        }

        void write(int four) {
            for (int shift = 24; shift >= 0 && length < TAPE; shift -= 8) {
                text[length] = (byte) (four >> shift);
                length++;
            }
        }

        boolean cut(int n) {
            if (n < 0 || n > length) {
                return false;
            }
            length = n;
            return true;
        }

        void drop() {
            length = 0;
        }

        int faultFound() {
            return fault;
        }

        int faultPlace() {
            return place;
        }

        /** The code of the tape, which goes; null with a fault. */
        int[] read() {
            split();
            drop();
            fault = 0;
            place = NONE;
            cells = 0;
            gone = 0;
            next();
            for (int n = 0; n < STATEMENTS && fault == 0 && token != END; n++) {
                statement();
            }
            if (token != END) {
                fail(5, start);
            }
            return fault == 0 && isWithin(cells, 0, TAPE) ? Arrays.copyOf(code, cells) : null;
        }

        private void statement() {
            int head = cells;
            int kind = token;
            int work = 0;
            expect(kind == STOP || kind == ALLOW || kind == LIMIT);
            if (kind != STOP) {
                work = token;
                expect(work >= LEAD && work <= FROST);
            }
            emit(kind);
            emit(work);
            emit(0);
            if (kind == LIMIT) {
                sum(0);
            } else {
                expect(token == WHEN);
                test(0);
            }
            expect(token == SEMICOLON);
            if (head + 2 < cells && cells <= TAPE) {
                code[head + 2] = cells - head - 3;
            }
        }

        private void test(int opened) {
            both(opened);
            for (int i = 0; i < TAPE && token == OR; i++) {
                next();
                both(opened);
                emit(OR);
            }
        }

        private void both(int opened) {
            fact(opened);
            for (int i = 0; i < TAPE && token == AND; i++) {
                next();
                fact(opened);
                emit(AND);
            }
        }

        private void fact(int opened) {
            boolean turned = false;
            for (int i = 0; i < TAPE && token == NOT; i++) {
                next();
                turned = !turned;
            }
            if (token == OPEN_TEST) {
                if (opens(OPEN_TEST, opened)) {
                    test(opened + 1);
                    expect(token == CLOSE_TEST);
                }
            } else if (token == ALL) {
                emit(ALL);
                next();
            } else {
                comparison(opened);
            }
            if (turned) {
                emit(NOT);
            }
        }

        private void comparison(int opened) {
            sum(opened);
            int sign = token;
            expect(sign == LESS || sign == MORE || sign == SAME);
            sum(opened);
            emit(sign);
        }

        private void sum(int opened) {
            product(opened);
            for (int i = 0; i < TAPE && (token == PLUS || token == MINUS); i++) {
                int sign = token;
                next();
                product(opened);
                emit(sign);
            }
        }

        private void product(int opened) {
            part(opened);
            for (int i = 0; i < TAPE && (token == TIMES || token == OVER); i++) {
                int sign = token;
                next();
                part(opened);
                emit(sign);
            }
        }

        private void part(int opened) {
            int what = token;
            if (what == NUMBER) {
                emit(number * STEPS + NUMBER);
                next();
            } else if (what >= LEAN && what <= DRAWN) {
                emit(what);
                next();
            } else if (what == LOAD) {
                next();
                if (token == NUMBER && !isColumn(number)) {
                    fail(4, start);
                }
                int column = number;
                expect(token == NUMBER);
                emit(column * STEPS + LOAD);
            } else if (what == OPEN) {
                if (opens(OPEN, opened)) {
                    sum(opened + 1);
                    expect(token == CLOSE);
                }
            } else if (what == MIN || what == MAX) {
                next();
                if (opens(OPEN, opened)) {
                    sum(opened + 1);
                    expect(token == COMMA);
                    sum(opened + 1);
                    expect(token == CLOSE);
                    emit(what);
                }
            } else {
                fail(1, wrong);
            }
        }

        /** Goes into a bracket, if it stands here and may; brackets bound how deep tests and sums go. */
        private boolean opens(int bracket, int opened) {
            if (token != bracket) {
                fail(1, wrong);
            } else if (opened >= OPEN_AT_ONCE) {
                fail(5, start);
            }
            next();
            return fault == 0;
        }

        private void expect(boolean isRight) {
            if (!isRight) {
                fail(1, wrong);
            }
            next();
        }

        /** The first fault stays; behind it no token is of any use. */
        private void fail(int what, int where) {
            if (fault == 0) {
                fault = what;
                place = where;
            }
            token = BAD;
        }

        private void emit(int cell) {
            if (fault == 0 && cells < TAPE) {
                code[cells] = cell;
                cells++;
            }
        }

        private void next() {
            if (fault == 0 && gone >= 0 && gone < tokens && gone <= TAPE) {
                token = kinds[gone];
                start = starts[gone];
                wrong = wrongs[gone];
                number = numbers[gone];
                gone++;
            }
        }

        /** Finds the tokens of the text, END behind them; ahead of its reading, which calls deep enough without that. */
        private void split() {
            tokens = 0;
            int at = 0;
            for (int i = 0; i < TAPE && at < length; i++) {
                if (isLetter(at) || isDigit(at)) {
                    at = takeRun(at);
                } else {
                    takeSign(at);
                    at++;
                }
            }
            put(END, length, length, 0);
        }

        /** Takes the letters or the digits that stand from a byte on; the byte behind them. */
        private int takeRun(int from) {
            boolean isWord = isLetter(from);
            int to = from;
            while (to < length && (isWord ? isLetter(to) : isDigit(to))) {
                to++;
            }
            int most = isWord ? LETTERS : DIGITS;
            if (isLetter(from - 1) || isDigit(from - 1)) {
                // Words and numbers side by side need a blank; this is a fault ahead of an overlong one.
                put(BAD, from, from, 0);
            } else if (to - from > most) {
                put(BAD, from, from + most, 0);
            } else if (isWord) {
                put(wordOf(from, to), from, from, 0);
            } else {
                put(NUMBER, from, from, numberOf(from, to));
            }
            return to;
        }

        private void takeSign(int at) {
            int sign = signAt(at);
            if (sign != BLANK) {
                put(sign, at, at, 0);
            }
        }

        private void put(int kind, int from, int wrongAt, int value) {
            if (tokens <= TAPE) {
                kinds[tokens] = kind;
                starts[tokens] = from;
                wrongs[tokens] = wrongAt;
                numbers[tokens] = value;
                tokens++;
            }
        }

        private int wordOf(int from, int to) {
            for (int word = LEAD; word <= MAX; word++) {
                if (isSpelled(spelling(word), from, to)) {
                    return word;
                }
            }
            return BAD;
        }

        private boolean isSpelled(String word, int from, int to) {
            if (word.length() != to - from || from < 0 || to > length) {
                return false;
            }
            for (int i = 0; i < word.length(); i++) {
                if (word.charAt(i) != text[from + i]) {
                    return false;
                }
            }
            return true;
        }

        private int numberOf(int from, int to) {
            int value = 0;
            for (int i = Math.max(0, from); i < to && i < length; i++) {
                value = 10 * value + text[i] - '0';
            }
            return value;
        }

        private boolean isLetter(int i) {
            return i >= 0 && i < length && text[i] >= 'a' && text[i] <= 'z';
        }

        private boolean isDigit(int i) {
            return i >= 0 && i < length && text[i] >= '0' && text[i] <= '9';
        }

        private int signAt(int i) {
            switch (i >= 0 && i < length ? text[i] : 0) {
                case 10:
                case 32: return BLANK;
                case '(': return OPEN;
                case ')': return CLOSE;
                case '[': return OPEN_TEST;
                case ']': return CLOSE_TEST;
                case ',': return COMMA;
                case ';': return SEMICOLON;
                case '+': return PLUS;
                case '-': return MINUS;
                case '*': return TIMES;
                case '/': return OVER;
                case '<': return LESS;
                case '>': return MORE;
                case '=': return SAME;
                default: return BAD;
            }
        }

        private static String spelling(int word) {
            switch (word) {
                case LEAD: return "lead";
                case PIPE: return "pipe";
                case FROST: return "frost";
                case STOP: return "stop";
                case ALLOW: return "allow";
                case LIMIT: return "limit";
                case WHEN: return "when";
                case OR: return "or";
                case AND: return "and";
                case NOT: return "not";
                case ALL: return "all";
                case LEAN: return "lean";
                case RATE: return "rate";
                case WORST: return "worst";
                case WATER: return "water";
                case DAY: return "day";
                case TONS: return "tons";
                case DRAWN: return "drawn";
                case LOAD: return "load";
                case MIN: return "min";
                default: return "max";
            }
        }
    }

    /** What mandates say of works. */
    private static final class Judge {
        private final Book book;
        private final Days days;
        private final Told wet;
        /** What the words LEAN .. DRAWN mean on the day at hand, by that order. */
        private final long[] facts = new long[DRAWN - LEAN + 1];
        private int dayAtHand;
        private long total;
        private long moment;
        private final long[] stack = new long[64];
        private final int[] breached = new int[ACTS];
        private int breachedCount;
        /** The changes of book and days when the breaches were found. */
        private int bookSeen = NONE;
        private int daysSeen = NONE;

        Judge(Book book, Days days, Told wet) {
            this.book = book;
            this.days = days;
            this.wet = wet;
        }

        /** The act of the mandate in force on a day; NONE without. */
        int ruling(int day) {
            int ruler = NONE;
            int latest = 0;
            for (int n = 1; n <= book.size(); n++) {
                Act act = book.act(n);
                if (act != null && act.isKnown(MANDATE) && act.from <= day && act.from >= latest) {
                    ruler = n;
                    latest = act.from;
                }
            }
            return ruler;
        }

        /** MAY, on a day that has been reached. */
        int verdict(int work, int much, int day) {
            Act ruler = book.act(ruling(day));
            if (ruler == null || ruler.code == null) {
                return 1;
            }
            lookAt(day);
            int[] code = ruler.code;
            boolean stopped = false;
            boolean allowed = false;
            boolean limited = false;
            int at = 0;
            for (int n = 0; n < STATEMENTS && at >= 0 && at + 2 < code.length; n++) {
                int kind = code[at];
                boolean isOfWork = code[at + 1] == work;
                int from = at + 3;
                at = from + code[at + 2];
                if (kind == STOP) {
                    stopped |= value(code, from, at) != 0;
                } else if (kind == ALLOW && isOfWork) {
                    allowed |= value(code, from, at) != 0;
                } else if (kind == LIMIT && isOfWork) {
                    limited |= much > value(code, from, at);
                }
            }
            return stopped ? 2 : !allowed ? 3 : limited ? 4 : 0;
        }

        /** Finds the breaches, if something has changed; all days have been reached. */
        void findBreaches() {
            if (bookSeen == book.changeCount() && daysSeen == days.changeCount()) {
                return;
            }
            bookSeen = book.changeCount();
            daysSeen = days.changeCount();
            breachedCount = 0;
            for (int n = 1; n <= book.size(); n++) {
                Act act = book.act(n);
                if (act != null && act.known && act.isWork() && breachedCount < ACTS
                        && verdict(act.kind, act.much, act.from) != 0) {
                    breached[breachedCount] = n;
                    breachedCount++;
                }
            }
        }

        int breachCount() {
            return breachedCount;
        }

        int breachAt(int k) {
            return k >= 0 && k < breachedCount && k < ACTS ? breached[k] : NONE;
        }

        private void lookAt(int day) {
            dayAtHand = day;
            total = days.totalOn(day);
            moment = days.momentOn(day, days.leanAt(day));
            facts[LEAN - LEAN] = days.leanAt(day);
            facts[RATE - LEAN] = day > 0 ? days.leanAt(day) - (long) days.leanAt(day - 1) : 0;
            facts[WORST - LEAN] = days.worstAt(day);
            facts[WATER - LEAN] = wet.on(day);
            facts[DAY - LEAN] = dayAtHand;
            facts[TONS - LEAN] = days.leadOn(day);
            facts[DRAWN - LEAN] = days.drawnAt(day);
        }

        /** What cells of code come to on the day at hand; a test that holds is 1. */
        private long value(int[] code, int from, int to) {
            int top = 0;
            for (int i = Math.max(0, from); i < to && i < code.length; i++) {
                int step = Math.floorMod(code[i], STEPS);
                if (step == NOT || step >= PLUS || isJoin(step)) {
                    top = join(step, top);
                } else if (top < stack.length) {
                    stack[top] = single(step, Math.floorDiv(code[i], STEPS));
                    top++;
                }
            }
            return top > 0 ? stack[0] : 0;
        }

        private static boolean isJoin(int step) {
            return step == AND || step == OR || step == MIN || step == MAX;
        }

        private long single(int step, int number) {
            if (step == NUMBER) {
                return number;
            }
            if (step == LOAD) {
                return days.loadOf(number, total, moment);
            }
            int fact = step - LEAN;
            return fact >= 0 && fact < facts.length ? facts[fact] : 1;
        }

        private int join(int step, int top) {
            if (top < 1 || top > stack.length) {
                return top;
            }
            if (step == NOT) {
                stack[top - 1] = 1 - stack[top - 1];
                return top;
            }
            if (top < 2) {
                return top;
            }
            stack[top - 2] = joined(step, stack[top - 2], stack[top - 1]);
            return top - 1;
        }

        private static long joined(int step, long a, long b) {
            switch (step) {
                case AND: return a & b;
                case OR: return a | b;
                case MIN: return Math.min(a, b);
                case MAX: return Math.max(a, b);
                case PLUS: return bounded(a + b);
                case MINUS: return bounded(a - b);
                case TIMES: return product(a, b);
                case OVER: return b == 0 ? 0 : Math.floorDiv(a, b);
                case LESS: return a < b ? 1 : 0;
                case MORE: return a > b ? 1 : 0;
                default: return a == b ? 1 : 0;
            }
        }

        private static long bounded(long n) {
            return Math.max(-GREATEST, Math.min(GREATEST, n));
        }

        /** The product would not always go into a long; so it is tested ahead of it. */
        private static long product(long a, long b) {
            if (b == 0 || Math.abs(a) <= GREATEST / Math.abs(b)) {
                return a * b;
            }
            return (a < 0) == (b < 0) ? GREATEST : -GREATEST;
        }
    }

    /** The gauges, and between what bounds their readings leave the lean. */
    private static final class Gauges {
        private final Book book;
        private final Days days;
        private final Told warm;
        private final int[] sun = new int[GAUGES];
        private final int[] drift = new int[GAUGES];
        private final int[] noise = new int[GAUGES];
        /** The readings gathered: their acts and the bounds of each. */
        private final int[] acts = new int[ACTS];
        private final long[] low = new long[ACTS];
        private final long[] high = new long[ACTS];
        private int count;
        /** The greatest low and the one next to it, the least high and the one next to it. */
        private long lower;
        private long nextLower;
        private long upper;
        private long nextUpper;

        Gauges(Book book, Days days, Told warm) {
            this.book = book;
            this.days = days;
            this.warm = warm;
            Arrays.fill(noise, 1000);
        }

        void set(int gauge, int newSun, int newDrift, int newNoise) {
            if (isGauge(gauge)) {
                sun[gauge] = newSun;
                drift[gauge] = newDrift;
                noise[gauge] = newNoise;
            }
        }

        int putRight(Act reading) {
            int gauge = reading.where;
            if (!isGauge(gauge)) {
                return NO_LEAN;
            }
            return reading.much - sun[gauge] * warm.on(reading.from) - drift[gauge] * reading.from;
        }

        /** Gathers the readings of the days, which have been reached, brought to the first of them. */
        void gather(int from, int to) {
            count = 0;
            lower = Long.MIN_VALUE;
            nextLower = Long.MIN_VALUE;
            upper = Long.MAX_VALUE;
            nextUpper = Long.MAX_VALUE;
            for (int n = 1; n <= book.size(); n++) {
                Act act = book.act(n);
                if (act != null && act.isKnown(READING) && act.from >= from && act.from <= to
                        && isGauge(act.where) && count < ACTS) {
                    long later = days.leanAt(act.from) - (long) days.leanAt(from);
                    long middle = putRight(act) - later;
                    acts[count] = n;
                    low[count] = middle - noise[act.where];
                    high[count] = middle + noise[act.where];
                    narrow(low[count], high[count]);
                    count++;
                }
            }
        }

        private void narrow(long newLow, long newHigh) {
            nextLower = Math.max(nextLower, Math.min(lower, newLow));
            lower = Math.max(lower, newLow);
            nextUpper = Math.min(nextUpper, Math.max(upper, newHigh));
            upper = Math.min(upper, newHigh);
        }

        long bound(boolean isUpper) {
            if (count == 0) {
                return NO_READINGS;
            }
            if (lower > upper) {
                return NO_BOUNDS;
            }
            return isUpper ? upper : lower;
        }

        int oddOne() {
            if (count == 0 || lower <= upper) {
                return NONE;
            }
            for (int i = 0; i < count && i < ACTS; i++) {
                long lowerWithout = low[i] == lower ? nextLower : lower;
                long upperWithout = high[i] == upper ? nextUpper : upper;
                if (lowerWithout <= upperWithout) {
                    return acts[i];
                }
            }
            return NONE;
        }
    }

    /** The search for the least earth to draw. */
    private static final class Spooner {
        private final Days days;
        private final int[] column = new int[PIPES];
        private final int[] litres = new int[PIPES];
        private int day;
        private int n;
        private int aim;
        private long ceiling;
        private int least;
        private final int[] choice = new int[SPOON_DAYS];
        private final int[] kept = new int[SPOON_DAYS];
        private int keptDays;
        /** The least sum met so far behind so many days with each pipe drawn so many times. */
        private final long[] met = new long[SPOON_DAYS << (3 * PIPES)];

        Spooner(Days days) {
            this.days = days;
        }

        void tell(int k, int newColumn, int newLitres) {
            if (k >= 0 && k < PIPES) {
                column[k] = newColumn;
                litres[k] = newLitres;
            }
        }

        int drawnOn(int i) {
            if (i < 0 || i >= keptDays || i >= SPOON_DAYS) {
                return NONE;
            }
            return kept[i] < 0 ? NONE_DRAWN : kept[i];
        }

        /** The first day has been reached. */
        int search(int firstDay, int newDays, int newAim, int slack) {
            day = firstDay;
            n = newDays;
            aim = newAim;
            ceiling = (long) days.leanAt(day) + slack;
            least = Integer.MAX_VALUE;
            Arrays.fill(met, Long.MAX_VALUE);
            draw(0, days.sumAt(day), 0, 0);
            if (least == Integer.MAX_VALUE) {
                return NONE;
            }
            keptDays = n;
            return least;
        }

        /**
         * Goes on behind so many days, by the order in which ways of like litres are told, so that the first of them
         * stays. The lean and all that comes of it hang on the sum of X times SETTLED alone.
         */
        private void draw(int gone, long sum, int litresGone, int times) {
            if (litresGone >= least) {
                return;
            }
            if (gone >= n || gone >= SPOON_DAYS) {
                if (leanOf(sum) <= aim) {
                    keep(litresGone);
                }
                return;
            }
            if (isNoBetter(gone, sum, times)) {
                return;
            }
            int lean = leanOf(sum);
            long grown = sum + days.sumGrowth(day + gone, lean);
            for (int k = NONE; k < PIPES; k++) {
                int much = k < 0 ? 0 : litres[k];
                long then = k < 0 ? grown : grown + 50L * much * southOf(column[k]);
                if ((k < 0 || much > 0) && leanOf(then) <= ceiling) {
                    choice[gone] = k;
                    draw(gone + 1, then, litresGone + much, k < 0 ? times : times + (1 << (3 * k)));
                }
            }
        }

        /**
         * A greater sum never becomes the lesser one: more lean turns more load to the south. So what a way of the
         * same draws with no greater sum did not reach, this one does not reach either.
         */
        private boolean isNoBetter(int gone, long sum, int times) {
            int place = (gone << (3 * PIPES)) + times;
            if (place < 0 || place >= met.length) {
                return false;
            }
            if (met[place] <= sum) {
                return true;
            }
            met[place] = sum;
            return false;
        }

        private void keep(int litresGone) {
            least = litresGone;
            System.arraycopy(choice, 0, kept, 0, SPOON_DAYS);
        }
    }

    /** The causes of a lurch. */
    private static final class Causes {
        /** Of each set, as bits: the sum of the leasts and of the greatests. */
        private final int[] leasts = new int[1 << CAUSES];
        private final int[] greatests = new int[1 << CAUSES];
        private int count;
        private int sets;
        private int inAll;
        private int inSome;

        int size() {
            return count;
        }

        int tell(int least, int greatest) {
            if (count < 0 || count >= CAUSES) {
                return NONE;
            }
            int without = 1 << count;
            for (int set = 0; set < without; set++) {
                leasts[without + set] = leasts[set] + least;
                greatests[without + set] = greatests[set] + greatest;
            }
            count++;
            return count - 1;
        }

        int clear() {
            int were = count;
            count = 0;
            return were;
        }

        void weigh(int lurch) {
            sets = 0;
            inAll = (1 << count) - 1;
            inSome = 0;
            for (int set = 0; set < 1 << count && set < leasts.length; set++) {
                if (leasts[set] <= lurch && lurch <= greatests[set]) {
                    sets++;
                    inAll &= set;
                    inSome |= set;
                }
            }
        }

        int setCount() {
            return sets;
        }

        int found(boolean isSure) {
            if (sets == 0) {
                return NO_SET;
            }
            return isSure ? inAll : inSome;
        }
    }
}

import java.util.Random;

/**
 * Spoons of up to eight days, held against all ways there are. The towers have no stones, so the ground gives way to
 * pipes and frost alone, and each way is a sum of what they make of X times SETTLED.
 */
public final class SpoonsTest {
    private static final int WAYS_OF_A_DAY = 4;
    /** Seeds that differ if a pipe drawn so many times is taken for another one, or for another day. */
    private static final int[] MIXED_UP = {1214, 3067, 8704, 8807};

    private final Random random;
    private final LeaningTower tower = new LeaningTower();
    private final int day;
    private final int n;
    /** What the known works of each day, and each of the three pipes, make of the sum. */
    private final long[] known;
    private final long[] drawn = new long[3];
    private final int[] litres = new int[3];
    private long sum;
    private int least = Check.NONE;
    private int bestWay = Check.NONE;

    private SpoonsTest(int seed) {
        random = new Random(seed);
        n = 4 + random.nextInt(5);
        day = random.nextInt(3) == 0 ? 400 - n : 1 + random.nextInt(4);
        known = new long[n];
    }

    public static void main(String[] args) {
        Check.by("spoons: the least litres in all, of like ones the first in which two differ is none");
        int found = 0;
        for (int seed = 1; seed <= 400; seed++) {
            found += new SpoonsTest(seed).hold(seed);
        }
        for (int seed : MIXED_UP) {
            new SpoonsTest(seed).hold(seed);
        }
        Check.due("there are ways, and towers without one", found > 100 && found < 400, true);
        Check.end("SpoonsTest");
    }

    private int hold(int seed) {
        pull();
        for (int k = 0; k < 3; k++) {
            int column = random.nextInt(random.nextBoolean() ? 4 : 12);
            litres[k] = random.nextInt(6) == 0 ? 0 : 1 + random.nextInt(30);
            drawn[k] = 50L * litres[k] * (2 * column - 15);
            tower.spoon(k, column, litres[k]);
        }
        int first = tower.lean(day);
        int aim = first + random.nextInt(40000) - 25000;
        int slack = random.nextInt(12000);
        tryAll(first, aim, slack);
        String what = "spoons(" + day + ", " + n + ", " + aim + ", " + slack + ") of seed " + seed;
        Check.due(what, tower.spoons(day, n, aim, slack), least);
        for (int i = 0; i < n; i++) {
            int choice = bestWay < 0 ? 0 : choice(bestWay, i);
            int due = bestWay < 0 ? Check.NONE : choice == 0 ? -2 : choice - 1;
            Check.due("drawn(" + i + ") behind " + what, tower.drawn(i), due);
        }
        return bestWay < 0 ? 0 : 1;
    }

    /** Works that pull the tower over, and some that pull it back. */
    private void pull() {
        sum = work(0);
        for (int i = 0; i < n; i++) {
            known[i] = random.nextInt(3) > 0 ? work(day + i) : 0;
        }
    }

    private long work(int onDay) {
        int column = random.nextInt(4) == 0 ? random.nextInt(8) : 8 + random.nextInt(8);
        int much = 1 + random.nextInt(20);
        tower.pipe(onDay, column, much);
        return 50L * much * (2 * column - 15);
    }

    /** What is drawn on a day by a way: 0 nothing, else the pipe and 1; the first day stands highest. */
    private int choice(int way, int i) {
        return way >> 2 * (n - 1 - i) & WAYS_OF_A_DAY - 1;
    }

    /** By the order in which ways of like litres are told: the first of the least ones stays. */
    private void tryAll(int first, int aim, int slack) {
        for (int way = 0; way < 1 << 2 * n; way++) {
            long now = sum;
            int all = 0;
            boolean can = true;
            for (int i = 0; i < n && can; i++) {
                int choice = choice(way, i);
                now += known[i] + (choice == 0 ? 0 : drawn[choice - 1]);
                all += choice == 0 ? 0 : litres[choice - 1];
                can = (choice == 0 || litres[choice - 1] > 0) && lean(now) <= (long) first + slack;
            }
            if (can && lean(now) <= aim && (bestWay < 0 || all < least)) {
                bestWay = way;
                least = all;
            }
        }
    }

    private static long lean(long ofSum) {
        return Math.floorDiv(1000 * ofSum, 1360L);
    }
}

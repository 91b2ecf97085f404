import java.nio.charset.StandardCharsets;
import java.util.Arrays;

/** What the tests share: answers held against those that are due, and texts put on the tape. */
final class Check {
    static final int NONE = -1;
    static final int NO_LEAN = -2000000000;
    static final long NO_READINGS = -2000000001L;
    static final long NO_BOUNDS = -2000000002L;
    static final long NO_SETTLED = -1000000000000001L;
    static final int MILLION = 1000000;
    static final int BILLION = 1000000000;
    static final int LEAST = Integer.MIN_VALUE;
    static final int GREATEST = Integer.MAX_VALUE;

    private static String sentence = "";
    private static int asked;
    private static int wrong;

    private Check() {
    }

    /** The sentence of the document that the answers from now on are due by. */
    static void by(String ofDocument) {
        sentence = ofDocument;
    }

    static void due(String what, long got, long want) {
        asked++;
        if (got != want) {
            wrong++;
            System.out.println(sentence + ": " + what + " answered " + got + ", due is " + want);
        }
    }

    static void due(String what, boolean got, boolean want) {
        due(what, bit(got), bit(want));
    }

    static void other(String what, long got, long notDue) {
        asked++;
        if (got == notDue) {
            wrong++;
            System.out.println(sentence + ": " + what + " answered " + got + ", which is not due");
        }
    }

    static int bit(boolean flag) {
        return flag ? 1 : 0;
    }

    /** The text alone stands on the tape. */
    static void tape(LeaningTower x, String text) {
        byte[] bytes = text.getBytes(StandardCharsets.ISO_8859_1);
        x.end(0);
        byte[] padded = Arrays.copyOf(bytes, (bytes.length + 19) / 20 * 20);
        for (int at = 0; at < padded.length; at += 20) {
            int[] five = new int[5];
            for (int i = 0; i < 20; i++) {
                five[i / 4] = five[i / 4] << 8 | padded[at + i] & 255;
            }
            due("feed", x.feed(five[0], five[1], five[2], five[3], five[4]), at + 20);
        }
        due("end", x.end(bytes.length), true);
    }

    static int mandate(LeaningTower x, String text, int day) {
        tape(x, text);
        return x.mandate(day);
    }

    static String times(String what, int n) {
        StringBuilder text = new StringBuilder();
        for (int i = 0; i < n; i++) {
            text.append(what);
        }
        return text.toString();
    }

    /** Ends the test: with 1 if an answer was not as due. */
    static void end(String test) {
        System.out.println(test + ": " + asked + " answers, " + wrong + " not as due");
        if (wrong != 0) {
            System.exit(1);
        }
    }
}

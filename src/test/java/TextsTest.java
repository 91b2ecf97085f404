/** The edges of a mandate's text: its words, numbers and signs, its length, its faults, and the reckoning of it. */
public final class TextsTest {
    private static final String ALWAYS = "allow pipe when all;limit pipe ";

    public static void main(String[] args) {
        emptyText();
        fullTape();
        tapeBehindItsEnd();
        tapeGoes();
        blanks();
        letters();
        digits();
        sideBySide();
        wordsSpelled();
        lengthOfWords();
        lengthOfNumbers();
        endsTooSoon();
        endsTooSoonInWords();
        columns();
        statements();
        brackets();
        bracketsOfOneKind();
        theFirstFault();
        latestFault();
        sumsAtTheirEnds();
        differencesAtTheirEnds();
        productsAtTheirEnds();
        eachStepIsBounded();
        quotients();
        fromTheLeft();
        signs();
        otherSigns();
        limits();
        leastOfWhyNot();
        Check.end("TextsTest");
    }

    private static void good(String text) {
        LeaningTower x = new LeaningTower();
        Check.due(text, Check.mandate(x, text, 0), 1);
        Check.due(text + " fault", x.fault(0), 0);
        Check.due(text + " place", x.fault(1), Check.NONE);
        Check.due(text + " acts", x.all(0), 1);
        Check.due(text + " tape", x.end(1), false);
    }

    private static void bad(String text, int fault, int place) {
        LeaningTower x = new LeaningTower();
        Check.due(text, Check.mandate(x, text, 0), Check.NONE);
        Check.due(text + " fault", x.fault(0), fault);
        Check.due(text + " place", x.fault(1), place);
        Check.due(text + " acts", x.all(0), 0);
        Check.due(text + " in force", x.force(0), Check.NONE);
        Check.due(text + " tape", x.end(1), false);
    }

    /** Whether a test holds on day 0 of a tower without stones. */
    private static void holds(String test, boolean want) {
        LeaningTower x = new LeaningTower();
        Check.due(test, Check.mandate(x, "stop when " + test + ";", 0), 1);
        Check.due(test, x.may(0, 0, 0), want ? 2 : 3);
    }

    /** A sum within 0 .. 999 of a tower without stones, told by the limit it makes. */
    private static void comesTo(String sum, int want) {
        LeaningTower x = new LeaningTower();
        Check.due(sum, Check.mandate(x, ALWAYS + sum + ";", 0), 1);
        Check.due(sum + " lets " + want, x.may(1, want, 0), 0);
        Check.due(sum + " does not let " + (want + 1), x.may(1, want + 1, 0), 4);
    }

    private static void emptyText() {
        Check.by("a mandate is { STATEMENT ; }: an empty one, too");
        good("");
        good(" ");
        good("\n");
        good("stop when all;");
        LeaningTower x = new LeaningTower();
        Check.due("no text at all", x.mandate(0), 1);
        Check.due("in force", x.force(0), 1);
        Check.due("nothing is allowed", x.may(0, 0, 0), 3);
        Check.due("no fault", x.fault(0), 0);
        Check.due("no place", x.fault(1), Check.NONE);
    }

    private static void fullTape() {
        Check.by("feed: NONE, doing nothing, if there would be more than 800");
        String text = ALWAYS + "1" + Check.times("+1", 383) + " ;";
        Check.due("length", text.length(), 800);
        LeaningTower x = new LeaningTower();
        Check.tape(x, text);
        Check.due("a 41st feed", x.feed(0x61616161, 0x61616161, 0x61616161, 0x61616161, 0x61616161), Check.NONE);
        Check.due("end 801", x.end(801), false);
        Check.due("end 800", x.end(800), true);
        Check.due("mandate of 800 bytes", x.mandate(0), 1);
        Check.due("384 ones", x.may(1, 384, 0), 0);
        Check.due("384 ones", x.may(1, 385, 0), 4);
        Check.due("feed behind it", x.feed(0, 0, 0, 0, 0), 20);
        bad(Check.times(" ", 799) + "x", 1, 799);
        bad(Check.times(" ", 798) + "x5", 1, 798);
        good(Check.times("\n", 800));
        bad("limit pipe " + Check.times(" ", 789), 1, 800);
        good("stop when" + Check.times(" not", 196) + " all  ;");
        bad("stop when" + Check.times(" not", 197) + " al", 1, 798);
        Check.by("end: false, doing nothing, if it has not so many");
        LeaningTower y = new LeaningTower();
        Check.due("of an empty tape", y.end(1), false);
        Check.due("of an empty tape", y.end(0), true);
        y.feed(1, 2, 3, 4, 5);
        for (int bytes : new int[] {19, 1, 0}) {
            Check.due("end", y.end(bytes), true);
            Check.due("end of one more", y.end(bytes + 1), false);
            Check.due("it has as many still", y.end(bytes), true);
        }
        Check.due("781 bytes leave no room", fed(781), Check.NONE);
        Check.due("780 bytes do", fed(780), 800);
    }

    private static long fed(int bytes) {
        LeaningTower x = new LeaningTower();
        for (int i = 0; i < 40; i++) {
            x.feed(0, 0, 0, 0, 0);
        }
        x.end(bytes);
        return x.feed(0, 0, 0, 0, 0);
    }

    private static void tapeBehindItsEnd() {
        Check.by("end: the tape has its first n bytes alone");
        String[] texts = {"stop when all;x", "stop when all;5", "stop when all;[", "stop when all;;"};
        for (String text : texts) {
            LeaningTower x = new LeaningTower();
            Check.tape(x, text);
            Check.due("end 14", x.end(14), true);
            Check.due(text + " cut to 14", x.mandate(0), 1);
        }
        int[][] cuts = {{4, 4}, {9, 9}, {13, 13}, {12, 10}, {1, 0}, {8, 5}};
        for (int[] cut : cuts) {
            LeaningTower x = new LeaningTower();
            Check.tape(x, "stop when all;");
            x.end(cut[0]);
            Check.due("cut to " + cut[0], x.mandate(0), Check.NONE);
            Check.due("cut to " + cut[0] + " fault", x.fault(0), 1);
            Check.due("cut to " + cut[0] + " place", x.fault(1), cut[1]);
        }
        String[] whole = {"abcdefghi", "12345678", "abcdefgh5", "1234567x"};
        for (String text : whole) {
            LeaningTower x = new LeaningTower();
            Check.tape(x, text);
            x.end(text.length() - 1);
            Check.due(text + " cut by one", x.mandate(0), Check.NONE);
            Check.due(text + " cut by one, place", x.fault(1), 0);
        }
        bytesFromTheHighest();
    }

    private static void bytesFromTheHighest() {
        Check.by("feed: of each number the highest first");
        LeaningTower x = new LeaningTower();
        x.feed(0x73746f70, 0x20776865, 0x6e20616c, 0x6c3b0a20, 0xff800001);
        x.end(16);
        Check.due("stop when all;", x.mandate(0), 1);
        for (int bytes = 17; bytes <= 20; bytes++) {
            x.feed(0x73746f70, 0x20776865, 0x6e20616c, 0x6c3b0a20, 0xff800001);
            x.end(bytes);
            Check.due("with a byte of 255", x.mandate(0), Check.NONE);
            Check.due("with a byte of 255", x.fault(1), 16);
        }
    }

    private static void tapeGoes() {
        Check.by("mandate: the tape goes, refused or not");
        LeaningTower x = new LeaningTower();
        Check.tape(x, "stop when all;");
        Check.due("taken", x.mandate(0), 1);
        Check.due("it went", x.end(1), false);
        Check.tape(x, "stop when all");
        Check.due("a fault", x.mandate(0), Check.NONE);
        Check.due("it went", x.end(1), false);
        for (int day : new int[] {-1, 400}) {
            Check.tape(x, "stop when all;");
            Check.due("no such day", x.mandate(day), -2);
            Check.due("it went", x.end(1), false);
            Check.due("nothing of it is left", x.mandate(399), x.all(0));
            Check.due("so it stops nothing", x.may(0, 0, 399), 3);
        }
    }

    private static void blanks() {
        Check.by("blanks (10, 32) between where one likes");
        good("stop when all;");
        good("stop\nwhen\nall\n;\n");
        good("  stop  when  [ not  all ]  ;  ");
        good("stop when lean<-1;".replace("-1", "0 - 1").replace("<", "\n<\n"));
        good("limit pipe ( 1 + min ( 2 , 3 ) ) ;");
        for (int sign : new int[] {0, 9, 11, 12, 13, 31, 33, 127, 128, 138, 160, 255}) {
            String other = String.valueOf((char) sign);
            bad("stop when all" + other + ";", 1, 13);
            bad(other + "stop when all;", 1, 0);
            bad("stop when all;" + other, 1, 14);
        }
        Check.by("no blanks within words and numbers");
        bad("st op when all;", 1, 0);
        bad("limit pipe 1 2;", 1, 13);
    }

    private static void letters() {
        Check.by("words of letters a .. z");
        bad("`", 1, 0);
        bad("a", 1, 0);
        bad("z", 1, 0);
        bad("{", 1, 0);
        // A letter belongs to the word, which is wrong as a whole; another sign is wrong by itself.
        bad("stop when alla;", 1, 10);
        bad("stop when allz;", 1, 10);
        bad("stop when all`;", 1, 13);
        bad("stop when all{;", 1, 13);
        bad("stop when allA;", 1, 13);
        bad("stop when allZ;", 1, 13);
        bad("stop when All;", 1, 10);
        bad("stop when all_;", 1, 13);
    }

    private static void digits() {
        Check.by("numbers of digits");
        comesTo("0", 0);
        comesTo("9", 9);
        comesTo("909", 909);
        comesTo("0000090", 90);
        bad("limit pipe :;", 1, 11);
        bad("limit pipe 1:;", 1, 12);
        bad("limit pipe 1.5;", 1, 12);
        bad("limit pipe 1/;", 1, 13);
        bad("limit pipe -1;", 1, 11);
        bad("limit pipe +1;", 1, 11);
    }

    private static void sideBySide() {
        Check.by("words and numbers side by side need a blank");
        bad("limit pipe load5;", 1, 15);
        good("limit pipe load 5;");
        bad("limit pipe5;", 1, 10);
        bad("allow pipe when 1<2or all;", 1, 19);
        good("allow pipe when 1<2 or all;");
        bad("allow pipe when all5;", 1, 19);
        bad("stopwhen all;", 1, 0);
        bad("stop when notall;", 1, 10);
        good("stop when not[all]and[all]or(1)<(2);");
        good("limit pipe min(1,2)+3;");
        bad("limit pipe min2(1,2);", 1, 14);
    }

    private static void wordsSpelled() {
        Check.by("words, whole");
        String text = "allow lead when not all and lean<rate or worst>water;limit pipe day+tons-drawn*load 7;"
                + "limit frost min(1,2)/max(3,4);stop when 5=6;";
        good(text);
        int at = 0;
        while (at < text.length()) {
            int end = at;
            while (text.charAt(end) >= 'a' && text.charAt(end) <= 'z') {
                end++;
            }
            if (end > at) {
                misspelled(text, at, end);
            }
            at = end + 1;
        }
    }

    private static void misspelled(String text, int at, int end) {
        bad(text.substring(0, at) + "q" + text.substring(at + 1), 1, at);
        bad(text.substring(0, end - 1) + "q" + text.substring(end), 1, at);
        bad(text.substring(0, end) + "q" + text.substring(end), 1, at);
        bad(text.substring(0, at) + "q" + text.substring(at), 1, at);
        bad(text.substring(0, at) + text.substring(at + 1), 1, at);
        if (end - at > 2 || text.charAt(at) != 'o') {
            bad(text.substring(0, end - 1) + text.substring(end), 1, at);
        }
    }

    private static void lengthOfWords() {
        Check.by("a 9th letter at itself, whatever may stand there");
        bad("abcdefgh", 1, 0);
        bad("abcdefghi", 1, 8);
        bad("abcdefgh i", 1, 0);
        bad("stop abcdefgh", 1, 5);
        bad("stop abcdefghi", 1, 13);
        bad("stop when all abcdefgh", 1, 14);
        bad("stop when all abcdefghi", 1, 22);
        bad("stop when 1 abcdefghi", 1, 20);
        bad("limit abcdefghi", 1, 14);
        bad("limit pipe abcdefghi", 1, 19);
        bad("limit pipe load abcdefghi", 1, 24);
        bad("limit pipe min abcdefghi", 1, 23);
        bad("limit pipe min(1 abcdefghi", 1, 25);
        bad("limit pipe min(1,2 abcdefghi", 1, 27);
        bad("limit pipe (1 abcdefghi", 1, 22);
        bad("stop when [all abcdefghi", 1, 23);
        bad("stop when all and abcdefghi", 1, 26);
        bad("stop when all;abcdefghi", 1, 22);
        bad("limit pipe 1+abcdefghi", 1, 21);
        bad("limit pipe 1*abcdefghi", 1, 21);
        bad("stop when 1<abcdefghi", 1, 20);
        bad("abcdefghijklmnopqrstuvwxyz", 1, 8);
    }

    private static void lengthOfNumbers() {
        Check.by("an 8th digit at itself, whatever may stand there");
        good("limit pipe 9999999;");
        bad("limit pipe 99999999;", 1, 18);
        bad("limit pipe 00000000;", 1, 18);
        bad("1234567", 1, 0);
        bad("12345678", 1, 7);
        bad("1234567 8", 1, 0);
        bad("stop 1234567", 1, 5);
        bad("stop 12345678", 1, 12);
        bad("stop when 12345678", 1, 17);
        bad("stop when all 1234567", 1, 14);
        bad("stop when all 12345678", 1, 21);
        bad("limit 12345678", 1, 13);
        bad("limit pipe 1 12345678", 1, 20);
        bad("limit pipe load 00000001", 1, 23);
        bad("limit pipe load 1 12345678", 1, 25);
        bad("limit pipe min 12345678", 1, 22);
        bad("stop when all;12345678", 1, 21);
        bad("limit pipe 1234567890123456789012345", 1, 18);
    }

    private static void endsTooSoon() {
        Check.by("fault 1 at the text's length, if it ends too soon");
        String text = "allow pipe when not [ 1 < load 2 + min ( 3 , 4 ) * ( 5 ) and all or all ] ; ";
        for (int length = 1; length < text.length() - 1; length++) {
            if (text.charAt(length) == ' ') {
                bad(text.substring(0, length), 1, length);
                bad(text.substring(0, length + 1), 1, length + 1);
                bad(text.substring(0, length) + " \n\n", 1, length + 3);
            }
            if (text.charAt(length) == ';') {
                break;
            }
        }
        good(text);
        good(text.trim());
        bad("stop", 1, 4);
        bad("limit pipe 1", 1, 12);
        bad("limit pipe", 1, 10);
        bad("limit", 1, 5);
    }

    private static void endsTooSoonInWords() {
        Check.by("words whole, at their first byte, even if the text ends within one");
        bad("sto", 1, 0);
        bad("stop whe", 1, 5);
        bad("allow pip", 1, 6);
        bad("limit pipe worst+wors", 1, 17);
        bad("stop when all an", 1, 14);
    }

    private static void columns() {
        Check.by("fault 4: a number that can't be, at its first byte");
        good("limit pipe load 0;");
        good("limit pipe load 15;");
        good("limit pipe load 0000015;");
        bad("limit pipe load 16;", 4, 16);
        bad("limit pipe load 0000016;", 4, 16);
        bad("limit pipe load 9999999;", 4, 16);
        bad("limit pipe load\n\n16", 4, 17);
        bad("limit pipe load 16 and so on", 4, 16);
        bad("limit pipe load 16x", 4, 16);
        bad("stop when min(load 1,load 16)<5;", 4, 26);
        bad("limit pipe load -1;", 1, 16);
        LeaningTower x = new LeaningTower();
        x.lead(1000, 20000, 0, 399);
        Check.mandate(x, ALWAYS + "load 15;", 0);
        Check.due("load 15", x.may(1, 503, 0), 0);
        Check.due("load 15", x.may(1, 504, 0), 4);
        Check.mandate(x, ALWAYS + "load 0;", 0);
        Check.due("load 0", x.may(1, 0, 0), 0);
        Check.due("load 0", x.may(1, 1, 0), 4);
    }

    private static void statements() {
        Check.by("fault 5: a 21st statement (whatever stands there), at its first byte");
        String twenty = Check.times("stop when not all;", 20);
        good(twenty);
        good(twenty + "  \n");
        bad(twenty + "stop when not all;", 5, 360);
        bad(twenty + " \nstop when not all;", 5, 362);
        for (String some : new String[] {"x", "stop", ";", "5", "12345678", "abcdefghi", "(", "]", "\t", "A", "-"}) {
            bad(twenty + some, 5, 360);
            bad(twenty + "\n" + some, 5, 361);
        }
        bad(Check.times("stop when not all;", 19) + "x", 1, 342);
        bad(Check.times("stop when not all;", 19) + ";", 1, 342);
        bad(Check.times("stop when not all;", 19) + "stop when not all", 1, 359);
        bad(Check.times("stop when not all;", 19) + "stop when not all x", 1, 360);
        LeaningTower x = new LeaningTower();
        Check.mandate(x, Check.times("stop when not all;", 19) + "stop when all;", 0);
        Check.due("the 20th counts", x.may(0, 0, 0), 2);
    }

    private static void brackets() {
        Check.by("fault 5: a 9th ( [ that is open at once, at itself");
        for (int tests = 0; tests <= 8; tests++) {
            String open = "stop when " + Check.times("[", tests);
            String close = Check.times("]", tests) + ";";
            int sums = 8 - tests;
            good(open + Check.times("(", sums) + "1" + Check.times(")", sums) + "=1" + close);
            bad(open + Check.times("(", sums + 1) + "1", 5, 18);
            bad(open + Check.times("min(", sums) + "(", 5, 10 + tests + 4 * sums);
            bad(open + Check.times("max(1,", sums) + "min(1,2)", 5, 10 + tests + 6 * sums + 3);
        }
        bad("stop when " + Check.times("[", 9), 5, 18);
        bad("stop when " + Check.times("[", 8) + " [", 5, 19);
        bad("stop when " + Check.times("[", 8) + "not [", 5, 22);
        bad("stop when " + Check.times("[", 8) + "all and [", 5, 26);
        bad("stop when " + Check.times("[", 8) + "1<(", 5, 20);
        Check.by("a bracket that no mandate has there is fault 1, were it the 9th");
        bad("stop when " + Check.times("[", 8) + "all[", 1, 21);
        bad("limit pipe " + Check.times("(", 8) + "1(", 1, 20);
        bad("limit pipe " + Check.times("(", 8) + "[", 1, 19);
    }

    private static void bracketsOfOneKind() {
        Check.by("open at once: those that are closed do not count");
        String deep = Check.times("(", 8) + "1" + Check.times(")", 8);
        comesTo(deep, 1);
        comesTo(deep + "+" + deep, 2);
        comesTo(deep + "*2-" + deep, 1);
        comesTo("min(" + deep.substring(1, 16) + "," + deep.substring(1, 16) + ")", 1);
        bad("limit pipe min(" + deep.substring(1, 16) + "," + deep, 5, 11 + 4 + 15 + 1 + 7);
        String all = Check.times("[", 8) + "all" + Check.times("]", 8);
        holds(all + " and " + all, true);
        holds("not " + all + " or not " + all, false);
        bad("stop when " + all + "and[" + all, 5, 10 + 19 + 4 + 7);
        bad("limit pipe (1;", 1, 13);
        bad("limit pipe (1));", 1, 14);
        bad("limit pipe (1];", 1, 13);
        bad("stop when [all;", 1, 14);
        bad("stop when [all]];", 1, 15);
        bad("stop when [all);", 1, 14);
        bad("limit pipe ();", 1, 12);
        bad("stop when [];", 1, 11);
    }

    private static void theFirstFault() {
        Check.by("faults, the first along the text");
        bad("limit pipe load 16+abcdefghi;", 4, 16);
        bad("limit pipe abcdefghi+load 16;", 1, 19);
        bad("limit pipe 1 load 16;", 1, 13);
        bad("limit pipe " + Check.times("(", 9) + "load 16", 5, 19);
        bad("limit pipe load 16+" + Check.times("(", 9), 4, 16);
        bad(Check.times("limit pipe 1;", 19) + "limit pipe load 16;limit", 4, 19 * 13 + 16);
        bad(Check.times("limit pipe 1;", 20) + "limit pipe load 16;", 5, 260);
    }

    private static void latestFault() {
        Check.by("fault: of the latest mandate() that read a text");
        LeaningTower x = new LeaningTower();
        Check.due("0 ahead of any", x.fault(0), 0);
        Check.due("NONE ahead of any", x.fault(1), Check.NONE);
        Check.due("a day that can't be reads no text", Check.mandate(x, "x", 400), -2);
        Check.due("0 ahead of any", x.fault(0), 0);
        Check.due("NONE ahead of any", x.fault(1), Check.NONE);
        Check.mandate(x, "limit pipe load 16;", 0);
        Check.due("its fault", x.fault(0), 4);
        Check.due("its place", x.fault(1), 16);
        Check.mandate(x, "x", -1);
        Check.due("still its fault", x.fault(0), 4);
        Check.due("still its place", x.fault(1), 16);
        Check.mandate(x, " x", 0);
        Check.due("another fault", x.fault(0), 1);
        Check.due("another place", x.fault(1), 1);
        Check.mandate(x, "x", 0);
        Check.due("place 0 is one", x.fault(1), 0);
        x.mandate(0);
        Check.due("0 without", x.fault(0), 0);
        Check.due("NONE without", x.fault(1), Check.NONE);
        Check.due("NONE for another", x.fault(2), Check.NONE);
        Check.due("NONE for another", x.fault(-1), Check.NONE);
    }

    private static void sumsAtTheirEnds() {
        Check.by("a sum above 10 to the 12 is that");
        String most = "1000000*1000000";
        holds(most + "+0=" + most, true);
        holds(most + "+1=" + most, true);
        holds(most + "+" + most + "=" + most, true);
        holds(most + "+9999999-9999999=" + most + "-9999999", true);
        holds(most + "-1+1=" + most, true);
        holds(most + "-1+2-1=" + most + "-1", true);
        holds(most + "-1<" + most, true);
        Check.by("a sum below -10 to the 12 likewise");
        String least = "(0-1000000*1000000)";
        holds(least + "+" + least + "=" + least, true);
        holds(least + "+(0-1)=" + least, true);
        holds(least + "+1>" + least, true);
        holds(least + "+(0-1)+1=" + least + "+1", true);
    }

    private static void differencesAtTheirEnds() {
        Check.by("a difference below -10 to the 12 is that");
        String least = "(0-1000000*1000000)";
        holds(least + "-0=" + least, true);
        holds(least + "-1=" + least, true);
        holds(least + "-1+1=" + least + "+1", true);
        holds(least + "+1-1=" + least, true);
        holds(least + "+1-2=" + least, true);
        Check.by("a difference above 10 to the 12 likewise");
        holds("1000000*1000000-(0-1)=1000000*1000000", true);
        holds("1000000*1000000-(0-1)-1=1000000*1000000-1", true);
        holds("1000000*1000000-" + least + "=1000000*1000000", true);
    }

    private static void productsAtTheirEnds() {
        Check.by("a product above 10 to the 12 is that");
        holds("1000000*1000000=1000000*1000000+1", true);
        holds("1000001*1000000=1000000*1000000", true);
        holds("1000001*999999<1000000*1000000", true);
        holds("1000001*999999=1000000*1000000-1", true);
        holds("(0-1000001)*(0-1000000)=1000000*1000000", true);
        Check.by("a product below -10 to the 12 likewise");
        holds("(0-1000000)*1000000=0-1000000*1000000", true);
        holds("(0-1000001)*1000000=0-1000000*1000000", true);
        holds("1000000*(0-1000001)=0-1000000*1000000", true);
        holds("(0-1000001)*999999=1-1000000*1000000", true);
        Check.by("products that go round a long");
        String most = "9999999*9999999";
        // 10 to the 24 and 2 to the 64 are far above a long; 4294967296 is 65536 * 65536.
        holds(most + "*(" + most + ")>0", true);
        holds("(65536*65536)*(65536*65536)=1000000*1000000", true);
        holds("(0-65536*65536)*(65536*65536)=0-1000000*1000000", true);
        holds("(0-" + most + ")*(0-" + most + ")=1000000*1000000", true);
        holds("0*(" + most + ")=0 and " + most + "*0=0", true);
    }

    private static void eachStepIsBounded() {
        Check.by("each sum, difference, product");
        holds("1000000*1000000*2/2=1000000*1000000/2", true);
        holds("1000000*1000000/2*2=1000000*1000000", true);
        holds("2*1000000*1000000/2=1000000*1000000/2", true);
        holds("(1000000*1000000+1000000*1000000)/2=1000000*1000000/2", true);
        holds("min(9999999*9999999,1000000*1000000-1)=1000000*1000000-1", true);
    }

    private static void quotients() {
        Check.by("/ gives the greatest whole number not above");
        String[][] rows = {{"6/3", "2"}, {"7/3", "2"}, {"8/3", "2"}, {"0/3", "0"}, {"2/3", "0"}, {"(0-1)/3", "0-1"},
            {"(0-3)/3", "0-1"}, {"(0-4)/3", "0-2"}, {"1/(0-3)", "0-1"}, {"3/(0-3)", "0-1"}, {"4/(0-3)", "0-2"},
            {"(0-4)/(0-3)", "1"}, {"(0-2)/(0-3)", "0"}, {"0/(0-3)", "0"}, {"7/1", "7"}, {"7/(0-1)", "0-7"},
            {"1000000*1000000/(0-1)", "0-1000000*1000000"}, {"(0-1000000*1000000)/(0-1)", "1000000*1000000"},
            {"1/(1000000*1000000)", "0"}, {"(0-1)/(1000000*1000000)", "0-1"}};
        for (String[] row : rows) {
            holds(row[0] + "=" + row[1], true);
        }
        Check.by("/ by 0 gives 0");
        for (String some : new String[] {"0", "1", "9999999", "(0-1)", "(0-9999999)", "1000000*1000000"}) {
            holds(some + "/0=0", true);
            holds(some + "/(5-5)=0", true);
            holds(some + "/day=0", true);
        }
        holds("5/0*3+7/0=0", true);
    }

    private static void fromTheLeft() {
        Check.by("all from the left on");
        comesTo("10-3-2", 5);
        comesTo("10-(3-2)", 9);
        comesTo("100/7/2", 7);
        comesTo("100/7*7", 98);
        comesTo("7*100/8", 87);
        comesTo("2+3*4", 14);
        comesTo("(2+3)*4", 20);
        comesTo("20-6/4*2", 18);
        comesTo("min(3,2)", 2);
        comesTo("max(3,2)", 3);
        comesTo("min(2,2)+max(2,2)", 4);
        comesTo("max(0-5,0)", 0);
        holds("all or all and not all", true);
        holds("not all and not all or all", true);
        holds("not all or all and not all", false);
        holds("not not all", true);
        holds("not 1>2 and all", true);
        holds("not [1<2 or all]", false);
    }

    private static void signs() {
        Check.by("SIGN being < or > or =");
        String[] signs = {"<", ">", "="};
        for (int a = 1; a <= 3; a++) {
            boolean[] due = {a < 2, a > 2, a == 2};
            for (int i = 0; i < signs.length; i++) {
                holds(a + signs[i] + "2", due[i]);
                holds("not " + a + signs[i] + "2", !due[i]);
            }
        }
        bad("stop when 1!2;", 1, 11);
        bad("stop when 1<=2;", 1, 12);
        bad("stop when 1==2;", 1, 12);
        bad("stop when 1<2<3;", 1, 13);
        bad("stop when 1;", 1, 11);
    }

    private static void otherSigns() {
        Check.by("no sign stands for another");
        for (String sign : new String[] {"(", "[", ")", "]", ";", "<", "=", "!", ".", ":", "%", "&", " 7 "}) {
            bad("limit pipe min(1" + sign + "2);", 1, 16 + sign.length() / 3);
        }
        for (String sign : new String[] {"(", "[", "]", ",", ";", "<", "=", "!", ".", ":", "%", "&", " 7 "}) {
            bad("limit pipe (1" + sign + ";", 1, 13 + sign.length() / 3);
            bad("limit pipe max(1,2" + sign + ";", 1, 18 + sign.length() / 3);
        }
        for (String sign : new String[] {"(", "[", ")", ",", ";", "<", "=", "!", "+", "*", "%", "&", " 7 "}) {
            bad("stop when [all" + sign + ";", 1, 14 + sign.length() / 3);
        }
        for (String sign : new String[] {"(", "[", ")", "]", ",", "<", "=", "!", "+", "*", "%", "&", " 7 "}) {
            bad("stop when all" + sign, 1, 13 + sign.length() / 3);
        }
        for (String sign : new String[] {")", "]", ",", ";", "<", "=", "!", "+", "*", "-", "/", "&"}) {
            bad("stop when " + sign + "all];", 1, 10);
            bad("limit pipe " + sign + "1);", 1, 11);
        }
        for (String sign : new String[] {"[", ")", "]", ",", ";", "<", "=", "!", "+", "*", "-", "/", " 7 "}) {
            bad("limit pipe min" + sign + "1,2);", 1, 14 + sign.length() / 3);
            bad("limit pipe max" + sign + "1,2);", 1, 14 + sign.length() / 3);
        }
        bad("stop when (all);", 1, 11);
        bad("limit pipe [1];", 1, 11);
    }

    private static void limits() {
        Check.by("4: it is more than the sum of a limit of that work (any)");
        comesTo("0", 0);
        comesTo("999", 999);
        LeaningTower x = new LeaningTower();
        Check.mandate(x, ALWAYS + "0-1;", 0);
        Check.due("0 is more than -1", x.may(1, 0, 0), 4);
        Check.mandate(x, ALWAYS + "1000;", 0);
        Check.due("1000 is not more than 1000", x.may(1, 1000, 0), 0);
        Check.mandate(x, ALWAYS + "5;limit pipe 3;limit lead 1;limit frost 0;", 0);
        Check.due("not more than any", x.may(1, 3, 0), 0);
        Check.due("more than one", x.may(1, 4, 0), 4);
        Check.due("more than both", x.may(1, 6, 0), 4);
        Check.mandate(x, "allow pipe when all;", 0);
        Check.due("without a limit", x.may(1, 1000, 0), 0);
        Check.due("of another work", x.may(0, 0, 0), 3);
    }

    private static void leastOfWhyNot() {
        Check.by("the least of these");
        LeaningTower x = new LeaningTower();
        Check.due("1 without a mandate", x.may(1, 9, 0), 1);
        Check.mandate(x, "limit pipe 5;stop when all;", 0);
        Check.due("2 ahead of 3 and 4", x.may(1, 9, 0), 2);
        Check.mandate(x, "limit pipe 5;stop when not all;allow pipe when not all;", 0);
        Check.due("3 ahead of 4", x.may(1, 9, 0), 3);
        Check.mandate(x, "limit pipe 5;stop when all;allow pipe when all;", 0);
        Check.due("2 ahead of 4", x.may(1, 9, 0), 2);
        Check.mandate(x, "limit pipe 5;stop when not all;allow pipe when not all;allow pipe when all;", 0);
        Check.due("4 alone", x.may(1, 6, 0), 4);
        Check.due("0 it may", x.may(1, 5, 0), 0);
        Check.mandate(x, "allow pipe when all;stop when not all;stop when all;", 0);
        Check.due("some stop", x.may(1, 5, 0), 2);
    }
}

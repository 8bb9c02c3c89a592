/** The bounds that "What it is" names of a TEXT and its ITEMS, a test for each of its sentences. */
public final class TextBoundsTest extends Answers {
    private static final String LEAST_FOREST = "b0,1,1,0;t1,1,1;";
    // Of each number of an ITEM: what stands ahead of it, what behind it, the least and the most that it may be.
    private static final String[][] NUMBERS = {
        {"b", ",1,1,0;", "0", "3"}, {"b0,", ",1,0;", "1", "20"}, {"b0,1,", ",0;", "1", "20"}, {"b0,1,1,", ";", "0", "60"},
        {"t", ",1,1;", "1", "20"}, {"t1,", ",1;", "1", "40"}, {"t1,1,", ";", "1", "60"},
        {"k", ",1;", "1", "20"}, {"k1,", ";", "1", "9"},
        {"f", ";", "1", "30"}};
    private static final String[] ITEMS = {"b0,1,1,0;", "t1,1,1;", "k1,1;", "f1;"};

    public static void main(String[] args) {
        twoHundredLetters();
        anItemCutByTheEnd();
        lettersAreOfAscii();
        oneOrTwoFigures();
        figuresAlone();
        theLeastAndTheMost();
        theLeastAndTheMostAreLaid();
        partedByCommas();
        aSemicolonBehindTheLast();
        asManyNumbersAsTold();
        eachALetter();
        eightBoughs();
        fourTenants();
        numberedFromZero();
        withoutK();
        theLastKCounts();
        withoutF();
        theLastFCounts();
        aBoundBrokenByOneThatDoesNotCount();
        keepersWalkOnEachQthDay();
        fallenFDaysLater();
        theFirstFault();
        noFault();
        finish("all bounds of a TEXT hold");
    }

    /** A TEXT without FAULT that is as long as can be. */
    private static String fullText() {
        return LEAST_FOREST + "f1;".repeat(60) + "f30;";
    }

    private static void twoHundredLetters() {
        sentence("A TEXT is letters (200 at most)");
        String text = fullText();
        HookOrCrook x = new HookOrCrook();
        put(x, text.substring(0, 199));
        due("the 200th", x.write(';'), 200);
        due("the 201st", x.write('x'), FULL);
        due("the 202nd", x.write(' '), FULL);
        due("letters", x.count(9), 200);
        due("fault", x.fault(), NONE);
        due("lay", x.lay(), 1);
        due("F of the last ITEM", x.count(5), 30);
        due("wipe", x.wipe(), 200);
        due("the first", x.write('b'), 1);
    }

    private static void anItemCutByTheEnd() {
        sentence("200 at most: the ; that is FULL is not there");
        HookOrCrook x = new HookOrCrook();
        String text = fullText().substring(0, 196) + "k1,1";
        put(x, text);
        due("write ;", x.write(';'), FULL);
        due("fault", x.fault(), 196);
        due("lay", x.lay(), NO);
        due("none is laid", x.count(0), 6);
    }

    private static void lettersAreOfAscii() {
        sentence("A letter (32 to 126, as in ASCII)");
        for (int letter = -300; letter <= 400; letter++) {
            HookOrCrook x = new HookOrCrook();
            boolean is = letter >= 32 && letter <= 126;
            due("write(" + letter + ")", x.write(letter), is ? 1 : BAD);
            due("letters", x.count(9), is ? 1 : 0);
            due("fault", x.fault(), is ? 0 : NONE);
        }
    }

    private static void oneOrTwoFigures() {
        sentence("numbers (one or two figures)");
        for (String[] number : NUMBERS) {
            faultOf(number[0] + number[1], 0);
            faultOf(number[0] + "1" + number[1], NONE);
            faultOf(number[0] + "01" + number[1], NONE);
            faultOf(number[0] + "001" + number[1], 0);
            faultOf(number[0] + "100" + number[1], 0);
            faultOf(number[0] + "010" + number[1], 0);
        }
    }

    private static void figuresAlone() {
        sentence("numbers (figures 0 to 9)");
        for (String[] number : NUMBERS) {
            for (char letter = 32; letter <= 126; letter++) {
                if (letter < '0' || letter > '9') {
                    boolean endsTheItem = letter == ';' && number[1].equals(";");
                    faultOf(number[0] + letter + number[1], 0);
                    faultOf(number[0] + "1" + letter + number[1], endsTheItem ? number[0].length() + 2 : 0);
                    faultOf(number[0] + letter + "1" + number[1], 0);
                }
            }
        }
    }

    private static void theLeastAndTheMost() {
        for (String[] number : NUMBERS) {
            int least = Integer.parseInt(number[2]);
            int most = Integer.parseInt(number[3]);
            sentence(number[0] + "(" + least + " to " + most + ")" + number[1]);
            for (int n = 0; n <= 99; n++) {
                int want = n >= least && n <= most ? NONE : 0;
                faultOf(number[0] + n + number[1], want);
                faultOf(number[0] + n / 10 + n % 10 + number[1], want);
            }
        }
    }

    private static void theLeastAndTheMostAreLaid() {
        sentence("the least and the most of each number are what is LAID");
        HookOrCrook x = laid("b0,1,1,0;b3,20,20,60;t1,1,1;t20,40,60;k1,1;f1;");
        numbersAre(x, new int[][] {{0, 1, 1, 0}, {3, 20, 20, 60}}, new int[][] {{1, 1, 1}, {20, 40, 60}}, new int[] {1, 1, 1});
        HookOrCrook y = laid("b1,09,10,59;b02,19,9,01;t10,39,59;t9,11,09;k20,9;f30;");
        numbersAre(y, new int[][] {{1, 9, 10, 59}, {2, 19, 9, 1}}, new int[][] {{10, 39, 59}, {9, 11, 9}}, new int[] {20, 9, 30});
    }

    private static void numbersAre(HookOrCrook x, int[][] boughs, int[][] tenants, int[] rest) {
        for (int b = 0; b < boughs.length; b++) {
            for (int what = 0; what < 4; what++) {
                due("bough(" + b + ", " + what + ")", x.bough(b, what), boughs[b][what]);
            }
        }
        for (int i = 0; i < tenants.length; i++) {
            for (int what = 0; what < 3; what++) {
                due("tenant(" + i + ", " + what + ")", x.tenant(i, what), tenants[i][what]);
            }
        }
        for (int k = 0; k < 3; k++) {
            due("count(" + (3 + k) + ")", x.count(3 + k), rest[k]);
        }
    }

    private static void partedByCommas() {
        sentence("parted by ,");
        for (String item : ITEMS) {
            for (int at = 0; at < item.length(); at++) {
                if (item.charAt(at) == ',') {
                    String ahead = item.substring(0, at);
                    String behind = item.substring(at + 1);
                    for (String other : new String[] {";", " ", ".", ", ", " ,", ",,", ":", "-"}) {
                        faultOf(ahead + other + behind, 0);
                    }
                }
            }
        }
        // Without the , the figures are one number, and one number is too few.
        faultOf("b01,1,0;", 0);
        faultOf("t11,1;", 0);
        faultOf("k11;", 0);
    }

    private static void aSemicolonBehindTheLast() {
        sentence("a ; behind the last one");
        for (String item : ITEMS) {
            String bare = item.substring(0, item.length() - 1);
            faultOf(item, NONE);
            for (String other : new String[] {"", ",", " ", ":", ".", ",;", " ;"}) {
                faultOf(bare + other, 0);
                faultOf(bare + other + item, 0);
                faultOf(item + bare + other, item.length());
            }
            // A second ; is no ITEM; its own place is the FAULT.
            faultOf(item + ";", item.length());
            faultOf(";" + item, 0);
        }
    }

    private static void asManyNumbersAsTold() {
        sentence("bK,H,W,D tR,C,N kP,Q fF");
        int[] told = {4, 3, 2, 1};
        for (int k = 0; k < ITEMS.length; k++) {
            StringBuilder item = new StringBuilder(ITEMS[k].substring(0, 1));
            faultOf(item + ";", 0);
            for (int many = 1; many <= 6; many++) {
                item.append(many == 1 ? "1" : ",1");
                faultOf(item + ";", many == told[k] ? NONE : 0);
            }
        }
    }

    private static void eachALetter() {
        sentence("each a letter: b, t, k, f");
        for (char letter = 32; letter <= 126; letter++) {
            int at = "btkf".indexOf(letter);
            for (int k = 0; k < ITEMS.length; k++) {
                faultOf(letter + ITEMS[k].substring(1), at == k ? NONE : 0);
            }
            // Between two ITEMS there is nothing.
            faultOf("f1;" + letter + "f1;", 3);
        }
    }

    private static void eightBoughs() {
        sentence("a BOUGH; 8 at most");
        String seven = "b3,1,1,0;".repeat(7);
        HookOrCrook x = laid(seven + "t1,1,1;b2,3,4,5;");
        due("BOUGHS", x.count(0), 8);
        due("the last one's W", x.bough(7, 2), 4);
        due("a ninth", x.bough(8, 0), BAD);
        faultOf(seven + "b3,1,1,0;", NONE);
        faultOf(seven + "b3,1,1,0;b3,1,1,0;", 72);
        faultOf(seven + "t1,1,1;b3,1,1,0;f1;b3,1,1,0;b3,1,1,0;", 63 + 7 + 9 + 3);
        put(x, seven + "b3,1,1,0;t1,1,1;b3,1,1,0;");
        due("lay", x.lay(), NO);
        due("as it was", x.bough(7, 2), 4);
    }

    private static void fourTenants() {
        sentence("a TENANT; 4 at most");
        String three = "t1,1,1;".repeat(3);
        HookOrCrook x = laid(three + "b3,1,1,0;t5,6,7;");
        due("TENANTS", x.count(1), 4);
        due("the last one's C", x.tenant(3, 1), 6);
        due("a fifth", x.tenant(4, 0), BAD);
        faultOf(three + "t1,1,1;", NONE);
        faultOf(three + "t1,1,1;t1,1,1;", 28);
        faultOf(three + "b3,1,1,0;t1,1,1;k1,1;t1,1,1;t1,1,1;", 21 + 9 + 7 + 5);
        put(x, three + "t1,1,1;b3,1,1,0;t1,1,1;");
        due("lay", x.lay(), NO);
        due("as it was", x.tenant(3, 1), 6);
    }

    private static void numberedFromZero() {
        sentence("0, 1, ..");
        HookOrCrook x = laid("t3,1,1;b0,11,1,0;t4,1,1;t5,1,1;b0,12,1,0;k1,1;b0,13,1,0;t6,1,1;");
        for (int b = 0; b < 3; b++) {
            due("bough(" + b + ", 1)", x.bough(b, 1), 11 + b);
        }
        for (int i = 0; i < 4; i++) {
            due("tenant(" + i + ", 0)", x.tenant(i, 0), 3 + i);
        }
        due("bough(-1, 1)", x.bough(-1, 1), BAD);
        due("bough(3, 1)", x.bough(3, 1), BAD);
        due("tenant(-1, 0)", x.tenant(-1, 0), BAD);
        due("tenant(4, 0)", x.tenant(4, 0), BAD);
        // Those of a larger forest that was LAID ahead are none any more.
        put(x, LEAST_FOREST);
        due("lay", x.lay(), 1);
        due("bough(0, 1)", x.bough(0, 1), 1);
        due("bough(1, 1)", x.bough(1, 1), BAD);
        due("tenant(1, 0)", x.tenant(1, 0), BAD);
    }

    private static void withoutK() {
        sentence("kP,Q (20, 3 without)");
        HookOrCrook x = laid("b0,1,1,0;t20,1,1;f5;");
        due("P", x.count(3), 20);
        due("Q", x.count(4), 3);
        due("no hook is longer than 20", x.take(0, 0), 1);
        HookOrCrook y = laid(LEAST_FOREST + "k7,8;");
        put(y, LEAST_FOREST);
        due("lay", y.lay(), 1);
        due("P of the last forest is forgotten", y.count(3), 20);
        due("Q of the last forest is forgotten", y.count(4), 3);
    }

    private static void theLastKCounts() {
        sentence("kP,Q (of several the last one counts)");
        HookOrCrook x = laid("k1,9;b0,1,1,0;k2,8;t3,1,1;k4,7;");
        due("P", x.count(3), 4);
        due("Q", x.count(4), 7);
        HookOrCrook y = laid("k4,7;b0,1,1,0;k2,8;t3,1,1;k1,9;");
        due("P", y.count(3), 1);
        due("Q", y.count(4), 9);
        due("a REACH of 3 is more than 1", y.take(0, 0), 0);
    }

    private static void withoutF() {
        sentence("fF (10 without)");
        HookOrCrook x = laidOn(11, "b1,1,1,2;t1,1,1;k1,1;");
        due("F", x.count(5), 10);
        due("9 DAYS later", x.bough(0, 5), 0);
        x.pass(1);
        due("10 DAYS later", x.bough(0, 5), 1);
        HookOrCrook y = laid(LEAST_FOREST + "f7;");
        put(y, LEAST_FOREST);
        due("lay", y.lay(), 1);
        due("F of the last forest is forgotten", y.count(5), 10);
    }

    private static void theLastFCounts() {
        sentence("fF (of several the last one counts)");
        due("F", laid("f30;f1;b0,1,1,0;f20;t1,1,1;f4;").count(5), 4);
        due("F", laid("f4;f1;b0,1,1,0;f20;t1,1,1;f30;").count(5), 30);
        HookOrCrook x = laidOn(3, "f3;b1,1,1,0;t1,1,1;f4;");
        due("after 3 DAYS", x.can(0, 0), 0);
        x.pass(1);
        due("after 4 DAYS", x.can(0, 0), 1);
    }

    private static void aBoundBrokenByOneThatDoesNotCount() {
        sentence("an ITEM that does not count must be so all the same");
        faultOf("k21,1;k1,1;", 0);
        faultOf("k1,1;k1,10;k1,1;", 5);
        faultOf("f31;f1;", 0);
        faultOf("f1;f0;f1;", 3);
    }

    private static void keepersWalkOnEachQthDay() {
        for (int q = 1; q <= 9; q++) {
            sentence("KEEPERS walk on each " + q + "-th DAY, 0 first");
            for (int day = 0; day <= 20; day++) {
                HookOrCrook x = laidOn(day, "b0,1,2,0;t2,2,2;k1," + q + ";f30;");
                due("take on DAY " + day, x.take(0, 0), day % q == 0 ? 0 : 2);
            }
            HookOrCrook y = laidOn(99, "b0,1,2,60;t2,2,2;k1," + q + ";f30;");
            due("FALLEN on DAY 99", y.take(0, 0), 2);
        }
    }

    private static void fallenFDaysLater() {
        for (int f = 1; f <= 30; f++) {
            sentence("a DEAD BOUGH has FALLEN " + f + " DAYS later");
            for (int dead : new int[] {0, 1, 60}) {
                HookOrCrook x = laidOn(dead + f - 1, "b1,20,1," + dead + ";t1,1,1;f" + f + ";");
                due("DEAD a DAY ahead", x.bough(0, 4), 1);
                due("a DAY ahead", x.bough(0, 5), 0);
                due("can a DAY ahead", x.can(0, 0), 0);
                x.pass(1);
                due("on that DAY", x.bough(0, 5), 1);
                due("can on that DAY", x.can(0, 0), 1);
                passTo(x, 99);
                due("from then on", x.bough(0, 5), 1);
            }
        }
        sentence("what is not DEAD has not FALLEN");
        HookOrCrook y = laid("b1,1,1,1;t1,1,1;f1;");
        due("DEAD", y.bough(0, 4), 0);
        due("FALLEN", y.bough(0, 5), 0);
    }

    private static void theFirstFault() {
        sentence("FAULT: the place (from 0 on) of the first letter of the first ITEM that is not so");
        String[] wrong = {"b4,1,1,0;", "b0,1,1,61;", "t1,1;", "k1,1", "x", "f1,", "b0,1,1,0,0;"};
        for (String one : wrong) {
            faultOf(one, 0);
            faultOf("f1;" + one, 3);
            faultOf(LEAST_FOREST + one, 16);
            // The place is that of the ITEM, not of what is wrong in it; the first counts, not the last.
            for (String other : wrong) {
                faultOf("f1;k2,2;" + one + other, 8);
            }
        }
        faultOf(fullText().substring(0, 199) + "x", 196);
        faultOf(fullText().substring(0, 196) + "f1;b", 199);
        faultOf("x".repeat(200), 0);
    }

    private static void noFault() {
        sentence("FAULT. NONE");
        faultOf("", NONE);
        faultOf(fullText(), NONE);
        HookOrCrook x = new HookOrCrook();
        due("of a new one", x.fault(), NONE);
        put(x, LEAST_FOREST + "k");
        due("fault", x.fault(), 16);
        x.write('1');
        x.write(',');
        x.write('1');
        due("fault", x.fault(), 16);
        x.write(';');
        due("fault", x.fault(), NONE);
        x.wipe();
        due("of none", x.fault(), NONE);
    }
}

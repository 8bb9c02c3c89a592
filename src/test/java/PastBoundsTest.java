import java.math.BigInteger;

/** The bounds that "Terms" names of STICKS, WHOSE hook, SURE, WASTE, NEEDS, A STORM and what is KEPT. */
public final class PastBoundsTest extends Answers {
    public static void main(String[] args) {
        sticksOf0To99();
        sticksThatAreGone();
        howManySticks();
        theFirstSticks();
        noSticks();
        whoseOnDay0To99();
        whoseByKind();
        whoseAsReachesAreNow();
        whoseHavingCarriedNothing();
        whoseAsBits();
        sureWithAReachOfNoMoreThanP();
        sureInLowestTerms();
        sureOf0To8DaysAnd0To10OfTen();
        wasteThatNoTenantCanEverTake();
        wasteNotGone();
        needsTogether();
        stormBy0To9999();
        stormOf1To30Days();
        stormsLastDay();
        stormStrikesByEachDraw();
        stormStrikesTheBoughDrawn();
        stormFromThenOn();
        stormGoesAsEachForHimself();
        stormsWeight();
        kept2AtMost();
        keptIsAllThatIsTold();
        backToWhatWasKeptLast();
        nothingIsUndoneByBack();
        finish("all bounds of what was hold");
    }

    /** A forest of DRIFT BOUGHS, all of which TENANT 0 has TAKEN, one a DAY. */
    private static HookOrCrook allGone(int... weights) {
        StringBuilder text = new StringBuilder("t1,40,60;");
        for (int w : weights) {
            text.append("b3,1,").append(w).append(",0;");
        }
        HookOrCrook x = laid(text.toString());
        for (int b = 0; b < weights.length; b++) {
            x.take(0, b);
            x.pass(1);
        }
        due("gone", x.count(6), weights.length);
        return x;
    }

    private static void sticksOf0To99() {
        sentence("STICKS of w (0 to 99). BAD");
        HookOrCrook x = allGone(20, 20, 20, 20, 19, 1);
        due("98", x.sticks(98, 0), 0);
        due("99", x.sticks(99, 0), 1);
        due("99", x.sticks(99, 1), 31);
        due("0", x.sticks(0, 0), 1);
        due("0", x.sticks(0, 1), 0);
        due("100 there would be", x.sticks(100, 0), BAD);
        due("100 there would be", x.sticks(100, 1), BAD);
        due("-1", x.sticks(-1, 0), BAD);
        due("-1", x.sticks(-1, 1), BAD);
        due("what -1", x.sticks(1, -1), BAD);
        due("what 0", x.sticks(1, 0), 1);
        due("what 1", x.sticks(1, 1), 32);
        due("what 2", x.sticks(1, 2), BAD);
    }

    private static void sticksThatAreGone() {
        sentence("sets of BOUGHS that are gone");
        HookOrCrook x = laid("b3,1,2,0;b0,1,2,0;b3,1,2,0;t5,40,60;k1,1;");
        due("none is", x.sticks(2, 0), 0);
        x.take(0, 2);
        due("2 is", x.sticks(2, 1), 4);
        due("CAUGHT", x.take(0, 1), 0);
        due("that one, too", x.sticks(2, 0), 2);
        due("that one, too", x.sticks(2, 1), 2);
        due("both", x.sticks(4, 1), 6);
        due("0 is not", x.sticks(6, 0), 0);
        x.undo();
        due("UNDONE", x.sticks(2, 0), 1);
    }

    private static void howManySticks() {
        sentence("of w weight together: how many");
        HookOrCrook x = allGone(1, 1, 1, 1, 1, 1, 1, 1);
        int[] want = {1, 8, 28, 56, 70, 56, 28, 8, 1, 0};
        for (int w = 0; w < want.length; w++) {
            due("sticks(" + w + ", 0)", x.sticks(w, 0), want[w]);
        }
        HookOrCrook y = allGone(1, 2, 4, 8, 16, 20);
        for (int w = 0; w <= 51; w++) {
            due("sticks(" + w + ", 0)", y.sticks(w, 0), (w <= 31 ? 1 : 0) + (w >= 20 ? 1 : 0));
        }
        due("more than all", y.sticks(52, 0), 0);
    }

    private static void theFirstSticks() {
        sentence("the first (bits, the least)");
        HookOrCrook x = allGone(1, 1, 1, 1, 1, 1, 1, 1);
        for (int w = 0; w <= 8; w++) {
            due("sticks(" + w + ", 1)", x.sticks(w, 1), (1 << w) - 1);
        }
        due("{0, 1} is ahead of {2}", allGone(2, 3, 5).sticks(5, 1), 3);
        due("{2} is ahead of {0, 3}", allGone(2, 9, 5, 3).sticks(5, 1), 4);
        due("{1, 2} is ahead of {0, 3}", allGone(1, 2, 3, 4).sticks(5, 1), 6);
        due("the last alone", allGone(1, 1, 1, 1, 1, 1, 1, 20).sticks(20, 1), 128);
    }

    private static void noSticks() {
        sentence("STICKS: none");
        HookOrCrook x = allGone(2, 4, 6);
        for (int w : new int[] {1, 3, 5, 11, 13, 99}) {
            due("sticks(" + w + ", 0)", x.sticks(w, 0), 0);
            due("sticks(" + w + ", 1)", x.sticks(w, 1), NONE);
        }
        due("all of it", x.sticks(12, 1), 7);
    }

    private static void whoseOnDay0To99() {
        sentence("WHOSE hook: on DAY d (0 to 99). BAD");
        for (int today : new int[] {0, 40, 99}) {
            HookOrCrook x = laidOn(today, "b3,1,1,30;t1,1,1;");
            for (int d = -3; d <= 103; d++) {
                due("whose(0, " + d + ") on DAY " + today, x.whose(0, d), d < 0 || d > 99 ? BAD : d >= 30 ? 1 : 0);
            }
            due("whose(-1, 0)", x.whose(-1, 0), BAD);
            due("whose(1, 0)", x.whose(1, 0), BAD);
        }
    }

    private static void whoseByKind() {
        sentence("WHOSE hook: TENANTS who could have TAKEN a BOUGH");
        String[] kinds = {"b0,7,2,60;", "b1,1,2,60;", "b2,4,2,60;", "b3,20,2,60;"};
        int[] want = {6, 0, 6, 7};
        for (int b = 0; b < 4; b++) {
            HookOrCrook x = laid(kinds[b] + "t6,9,9;t7,9,9;t8,2,9;t20,1,9;f30;");
            due("DAY 59", x.whose(0, 59), 0);
            due("DAY 60", x.whose(0, 60), want[b]);
            due("DAY 89", x.whose(0, 89), want[b]);
            due("DAY 90", x.whose(0, 90), 7);
            due("DAY 99", x.whose(0, 99), 7);
        }
    }

    private static void whoseAsReachesAreNow() {
        sentence("WHOSE hook: as REACHES are now");
        HookOrCrook x = laid("b0,7,2,0;t7,9,9;t7,9,9;f30;");
        x.pass(3);
        x.hook(1, 6);
        due("ahead of today", x.whose(0, 0), 1);
        due("behind today", x.whose(0, 29), 1);
        due("FALLEN", x.whose(0, 30), 3);
        x.undo();
        due("UNDONE", x.whose(0, 0), 3);
        // Gone or not, P and KEEPERS do not matter.
        x.take(0, 0);
        due("gone", x.whose(0, 0), 3);
        due("longer than P", laid("b0,7,2,0;t7,9,9;k1,1;").whose(0, 0), 1);
    }

    private static void whoseHavingCarriedNothing() {
        sentence("WHOSE hook: having carried nothing");
        HookOrCrook x = laid("b3,1,9,0;b3,1,9,0;b3,1,10,0;t1,9,9;");
        x.take(0, 0);
        due("can", x.can(0, 1), 0);
        due("W as C", x.whose(1, 0), 1);
        due("W more than C", x.whose(2, 99), 0);
    }

    private static void whoseAsBits() {
        sentence("WHOSE hook: TENANTS (bits)");
        for (int bits = 0; bits < 16; bits++) {
            StringBuilder text = new StringBuilder("b0,5,2,0;");
            for (int i = 0; i < 4; i++) {
                text.append((bits >> i & 1) == 1 ? "t5,9,9;" : "t4,9,9;");
            }
            due("whose", laid(text.toString()).whose(0, 0), bits);
            due("warm", laid(text.toString().replace(",9;", ",2;").replace("b0,5,2,0;", "b0,5,2,0;".repeat(4))).warmBy(0), bits);
        }
    }

    private static void sureWithAReachOfNoMoreThanP() {
        sentence("SURE: (1, if his REACH is no more than P)");
        for (int p = 1; p <= 20; p++) {
            for (int r = Math.max(1, p - 1); r <= Math.min(20, p + 1); r++) {
                HookOrCrook x = laid("b0,1,1,0;t" + r + ",9,9;k" + p + ",9;");
                due("above, REACH " + r + ", P " + p, x.sure(0, 1, 7, 0), r > p ? 3 : 1);
                due("below, REACH " + r + ", P " + p, x.sure(0, 1, 7, 1), r > p ? 10 : 1);
                due("surely CAUGHT", x.sure(0, 8, 10, 0), r > p ? 0 : 1);
            }
        }
        HookOrCrook y = laid("b0,1,1,0;t5,9,9;t5,9,9;k5,9;");
        y.hook(1, 6);
        due("0", y.sure(0, 1, 7, 1), 1);
        due("1, by a longer hook", y.sure(1, 1, 7, 1), 10);
        y.hook(1, 5);
        due("1, by a shorter hook", y.sure(1, 1, 7, 1), 1);
    }

    private static void sureInLowestTerms() {
        sentence("SURE: in lowest terms");
        for (int n = 0; n <= 8; n++) {
            HookOrCrook x = laid("b0,1,1,0;t9,9,9;k5,9;");
            for (int chance = 0; chance <= 10; chance++) {
                BigInteger above = BigInteger.valueOf(10 - chance).pow(n);
                BigInteger below = BigInteger.TEN.pow(n);
                BigInteger common = above.gcd(below);
                due("above of " + n + ", " + chance, x.sure(0, n, chance, 0), above.divide(common).intValueExact());
                due("below of " + n + ", " + chance, x.sure(0, n, chance, 1), below.divide(common).intValueExact());
            }
        }
    }

    private static void sureOf0To8DaysAnd0To10OfTen() {
        sentence("SURE: x (0 to 10) of ten, n (0 to 8) DAYS. BAD");
        HookOrCrook x = laid("b0,1,1,0;t9,9,9;t5,9,9;k5,9;");
        for (int n = -2; n <= 11; n++) {
            for (int chance = -2; chance <= 13; chance++) {
                boolean is = n >= 0 && n <= 8 && chance >= 0 && chance <= 10;
                // No more than P: 1 within the bounds, BAD outside them all the same.
                due("sure(1, " + n + ", " + chance + ", 0)", x.sure(1, n, chance, 0), is ? 1 : BAD);
            }
        }
        due("no DAYS, surely walked", x.sure(0, 0, 10, 0), 1);
        due("no DAYS, surely walked", x.sure(0, 0, 10, 1), 1);
        due("a DAY, surely walked", x.sure(0, 1, 10, 0), 0);
        due("a DAY, surely walked", x.sure(0, 1, 10, 1), 1);
        due("8 DAYS, never walked", x.sure(0, 8, 0, 0), 1);
        due("8 DAYS, never walked", x.sure(0, 8, 0, 1), 1);
        due("part -1", x.sure(0, 1, 1, -1), BAD);
        due("part 2", x.sure(0, 1, 1, 2), BAD);
        due("TENANT -1", x.sure(-1, 1, 1, 0), BAD);
        due("TENANT 2", x.sure(2, 1, 1, 0), BAD);
    }

    private static void wasteThatNoTenantCanEverTake() {
        sentence("WASTE: the weight of BOUGHS that no TENANT can ever TAKE (by FIRST DAY)");
        for (int w = 1; w <= 20; w++) {
            due("W " + w, laid("b3,1," + w + ",0;t1,7,9;t1,11,9;").waste(), w <= 11 ? 0 : w);
        }
        due("on the last DAY that can be, by FALLING", laid("b1,20,9,60;b2,20,9,60;b0,20,9,60;t1,9,9;f30;").waste(), 0);
        due("all of 8", laid("b3,1,20,0;".repeat(8) + "t1,19,9;").waste(), 160);
        due("8 of W as C", laid("b3,1,20,0;".repeat(8) + "t1,20,9;").waste(), 0);
        HookOrCrook x = laid("b3,1,9,0;b3,1,9,0;b3,1,10,0;t1,9,9;");
        x.take(0, 0);
        due("what he has carried today does not matter", x.waste(), 10);
        passTo(x, 99);
        due("on DAY 99", x.waste(), 10);
    }

    private static void wasteNotGone() {
        sentence("WASTE: of BOUGHS not gone");
        HookOrCrook x = laid("b3,1,9,0;b3,1,10,0;t1,9,9;");
        due("waste", x.waste(), 10);
        x.take(0, 0);
        due("what is gone is none, though it has no FIRST DAY", x.firstDay(0, 0), NONE);
        due("waste", x.waste(), 10);
    }

    private static void needsTogether() {
        sentence("NEEDS: what all HEARTHS lack together");
        HookOrCrook x = laid("b3,1,4,0;b3,1,1,0;b3,1,1,0;b0,1,2,0;t1,40,5;t5,40,60;k4,1;");
        due("5 and 60", x.needs(), 65);
        x.take(0, 0);
        due("1 and 60", x.needs(), 61);
        x.take(0, 1);
        due("0 and 60", x.needs(), 60);
        x.take(0, 2);
        due("6 of 5 lack nothing, and are of no use to another", x.needs(), 60);
        due("CAUGHT", x.take(1, 3), 0);
        due("still 60", x.needs(), 60);
        HookOrCrook y = laid("b3,1,1,0;t1,40,1;");
        due("1", y.needs(), 1);
        y.take(0, 0);
        due("0", y.needs(), 0);
    }

    /** DRAW of a STORM by z on the DAY when so many of its DAYS are over. */
    private static int draw(int z, int over) {
        BigInteger x = BigInteger.valueOf(7919).multiply(BigInteger.valueOf(z))
            .add(BigInteger.valueOf(6151).multiply(BigInteger.valueOf(over))).add(BigInteger.ONE);
        return x.multiply(x).mod(BigInteger.valueOf(65521)).intValueExact() / 2;
    }

    private static boolean strikes(int z, int over) {
        return draw(z, over) / 8 % 3 == 0;
    }

    private static void stormBy0To9999() {
        sentence("A STORM by z (0 to 9999). BAD");
        HookOrCrook x = laid("b1,1,5,60;t1,9,5;");
        for (int z : new int[] {-2, -1, 10000, 10001}) {
            due("storm(" + z + ", 1, 0)", x.storm(z, 1, 0), BAD);
            due("storm(" + z + ", 1, 1)", x.storm(z, 1, 1), BAD);
        }
        due("by 0", x.storm(0, 1, 1), 5);
        due("by 1", x.storm(1, 1, 1), strikes(1, 0) ? 5 : 0);
        due("by 9998", x.storm(9998, 1, 1), strikes(9998, 0) ? 5 : 0);
        due("by 9999", x.storm(9999, 1, 1), strikes(9999, 0) ? 5 : 0);
        due("what -1", x.storm(0, 1, -1), BAD);
        due("what 2", x.storm(0, 1, 2), BAD);
    }

    private static void stormOf1To30Days() {
        sentence("A STORM of n (1 to 30) DAYS. BAD");
        HookOrCrook x = laid("b3,1,5,0;t1,9,5;");
        for (int n = -3; n <= 40; n++) {
            boolean is = n >= 1 && n <= 30;
            due("storm(5, " + n + ", 0)", x.storm(5, n, 0), is ? 1 : BAD);
            due("storm(5, " + n + ", 1)", x.storm(5, n, 1), is ? 5 : BAD);
        }
        for (int n = 1; n <= 30; n++) {
            theLastDayOfAStormCounts(n);
        }
    }

    /** By a z that does not strike BOUGH 7 the heavy one is had on the very DAY on which it dies. */
    private static void theLastDayOfAStormCounts(int n) {
        HookOrCrook x = laid("b3,1,1,60;".repeat(7) + "b3,1,20," + (n - 1) + ";t1,40,20;");
        int z = 0;
        while (struckBy(z, n, 8, new int[] {0, 0, 0, 0, 0, 0, 0, 1}) == 1) {
            z++;
        }
        holds("z is one", z <= 9999);
        due("WARM by " + n + " DAYS", x.storm(z, n, 0), 1);
        due("the heavy one by " + n + " DAYS", x.storm(z, n, 1) / 20, 1);
        if (n > 1) {
            due("WARM by a DAY less than " + n, x.storm(z, n - 1, 0), 0);
            due("the heavy one by a DAY less than " + n, x.storm(z, n - 1, 1) / 20, 0);
        }
    }

    private static void stormsLastDay() {
        sentence("A STORM. NO: its last DAY would be beyond DAY 99");
        for (int today = 68; today <= 99; today++) {
            HookOrCrook x = laidOn(today, "b3,1,5,0;t1,9,5;");
            for (int n = 1; n <= 30; n++) {
                due("storm(0, " + n + ", 1) on DAY " + today, x.storm(0, n, 1), today + n - 1 <= 99 ? 5 : NO);
            }
            due("31 DAYS on DAY " + today, x.storm(0, 31, 0), BAD);
            due("day", x.count(2), today);
        }
    }

    private static void stormStrikesByEachDraw() {
        sentence("if (DRAW by 8, cut) is parted by 3");
        for (int from = 0; from <= 9999; from += 400) {
            HookOrCrook x = laid("b1,1,5,60;t1,9,5;f30;");
            for (int z = from; z < from + 400 && z <= 9999; z++) {
                due("storm(" + z + ", 1, 1)", x.storm(z, 1, 1), strikes(z, 0) ? 5 : 0);
            }
        }
        sentence("6151 (how many of these DAYS are over)");
        for (int z : new int[] {0, 1, 2, 3, 4, 5, 77, 5000, 9998, 9999}) {
            HookOrCrook x = laid("b1,1,5,60;t1,9,5;f30;");
            boolean struck = false;
            for (int n = 1; n <= 30; n++) {
                struck |= strikes(z, n - 1);
                due("storm(" + z + ", " + n + ", 1)", x.storm(z, n, 1), struck ? 5 : 0);
                due("storm(" + z + ", " + n + ", 0)", x.storm(z, n, 0), struck ? 1 : 0);
            }
        }
    }

    private static void stormStrikesTheBoughDrawn() {
        sentence("the BOUGH DRAW modulo as many is DEAD and has FALLEN");
        int[] weights = {1, 2, 3, 4, 5, 6, 7, 8};
        for (int boughs = 1; boughs <= 8; boughs++) {
            StringBuilder text = new StringBuilder("t1,40,60;f30;");
            for (int b = 0; b < boughs; b++) {
                text.append("b1,20,").append(weights[b]).append(",60;");
            }
            HookOrCrook x = laid(text.toString());
            for (int z = 0; z < 60; z++) {
                due("storm(" + z + ", 1, 1) of " + boughs, x.storm(z, 1, 1), strikes(z, 0) ? weights[draw(z, 0) % boughs] : 0);
            }
            for (int z = 0; z < 60; z++) {
                due("storm(" + z + ", 30, 1) of " + boughs, x.storm(z, 30, 1), struckBy(z, 30, boughs, weights));
            }
        }
    }

    /** The weight of what n DRAWS strike. */
    private static int struckBy(int z, int n, int boughs, int[] weights) {
        int struck = 0;
        for (int over = 0; over < n; over++) {
            struck |= strikes(z, over) ? 1 << draw(z, over) % boughs : 0;
        }
        int all = 0;
        for (int b = 0; b < boughs; b++) {
            all += (struck >> b & 1) * weights[b];
        }
        return all;
    }

    private static void stormFromThenOn() {
        sentence("A STORM: from then on; as many as there are, gone ones, too");
        // By 0 BOUGH 0 of 2 is struck on DAY 0, BOUGH 1 on DAY 1, none on DAYS 2 and 3.
        HookOrCrook x = laid("b1,1,9,60;b1,1,8,60;b3,1,5,0;t1,9,60;f30;");
        HookOrCrook y = laid("b1,1,9,60;b1,1,8,60;t1,9,60;t1,1,1;f30;");
        due("of 3: BOUGH 0, on DAY 0", x.storm(0, 1, 1), 9);
        due("of 2: BOUGH 0, on DAY 0", y.storm(0, 1, 1), 9);
        due("of 2: BOUGH 1, on DAY 1", y.storm(0, 2, 1), 17);
        x.take(0, 2);
        due("5 and 9 are too much today", x.storm(0, 1, 1), 0);
        due("it lies there on DAY 1", x.storm(0, 2, 1), 9);
        // What is drawn and gone is drawn in vain; no other is struck for it.
        HookOrCrook z = laid("b3,1,9,0;b1,1,8,60;t1,9,60;f30;");
        z.take(0, 0);
        due("BOUGH 0 is gone: nothing", z.storm(0, 1, 1), 0);
        z.pass(1);
        due("BOUGH 0 is gone: nothing", z.storm(0, 1, 1), 0);
        due("BOUGH 1 then", z.storm(0, 2, 1), 8);
        due("nothing changes", z.bough(1, 4) + z.bough(1, 5) + z.bough(1, 6), 0);
        due("nothing changes", z.bough(1, 3), 60);
    }

    private static void stormGoesAsEachForHimself() {
        sentence("A STORM: then it goes as EACH FOR HIMSELF: who is WARM then (bits)");
        // None is struck by 5 on DAYS 0 to 3: it is as without.
        HookOrCrook x = laid("b3,1,5,0;b3,1,5,1;b3,1,5,2;b3,1,5,3;t1,9,5;t1,9,5;t1,9,5;t1,9,5;k1,1;");
        for (int n = 1; n <= 4; n++) {
            due("WARM after " + n, x.storm(5, n, 0), x.warmBy(n - 1));
            due("gone after " + n, x.storm(5, n, 1), 5 * n);
        }
        x.take(3, 0);
        due("WARM now", x.storm(5, 1, 0), 8);
        due("and 0 then", x.storm(5, 2, 0), 9);
        // Who is WARM leaves what is struck.
        HookOrCrook y = laid("b3,1,5,0;b1,1,5,60;t1,40,5;f30;");
        y.take(0, 0);
        due("nothing is gone", y.storm(0, 30, 1), 0);
        due("WARM", y.storm(0, 30, 0), 1);
    }

    private static void stormsWeight() {
        sentence("A STORM: how much weight is gone in these");
        HookOrCrook x = laid("b3,1,20,0;b3,1,20,0;b3,1,20,0;b3,1,7,0;b3,1,20,1;t1,40,60;t1,40,60;t1,1,1;");
        due("two by 0, 20 and 7 by 1", x.storm(5, 1, 1), 67);
        due("and 20 on DAY 1", x.storm(5, 2, 1), 87);
        x.take(2, 3);
        due("can't: nothing is gone", x.count(6), 0);
        x.take(1, 0);
        due("without what was gone ahead", x.storm(5, 1, 1), 20 + 20 + 7);
        due("none is left", x.storm(5, 30, 1), 67);
    }

    private static void kept2AtMost() {
        sentence("KEPT: 2 at most. FULL");
        HookOrCrook x = laid("b0,1,1,0;t1,1,1;");
        due("first", x.keep(), 1);
        x.pass(1);
        due("second", x.keep(), 2);
        x.pass(1);
        due("third", x.keep(), FULL);
        due("KEPT", x.count(8), 2);
        due("what can be UNDONE", x.count(7), 2);
        due("back", x.back(), 1);
        due("the second it was", x.count(2), 1);
        due("room again", x.keep(), 2);
        due("third", x.keep(), FULL);
        due("back", x.back(), 1);
        due("back", x.back(), 0);
        due("the first it was", x.count(2), 0);
        due("none", x.back(), NO);
        due("day", x.count(2), 0);
    }

    private static void keptIsAllThatIsTold() {
        sentence("KEPT are DAYS, BOUGHS, STACKS, REACHES, what was carried today");
        HookOrCrook x = laid("b3,1,4,0;b0,1,1,9;b3,1,3,0;t5,9,9;t6,9,9;k1,9;");
        x.pass(2);
        x.take(0, 0);
        x.hook(1, 8);
        x.ring(1);
        x.keep();
        put(x, "f3;");
        x.take(0, 2);
        x.take(1, 1);
        x.pass(4);
        x.hook(0, 9);
        x.hook(1, 9);
        due("back", x.back(), 0);
        due("day", x.count(2), 2);
        due("gone", x.bough(0, 6) * 100 + x.bough(1, 6) * 10 + x.bough(2, 6), 100);
        due("RINGED", x.bough(1, 3), 2);
        due("stacks", x.tenant(0, 3) * 10 + x.tenant(1, 3), 40);
        due("carried", x.tenant(0, 4) * 10 + x.tenant(1, 4), 40);
        due("reaches", x.tenant(0, 0) * 10 + x.tenant(1, 0), 58);
        due("THE TEXT is not", x.count(9), 3);
        // What is KEPT is not touched by what comes behind it, nor by UNDOING.
        HookOrCrook y = laid("b3,1,4,0;t5,9,9;");
        y.take(0, 0);
        y.keep();
        y.undo();
        y.pass(1);
        y.undo();
        due("back", y.back(), 0);
        due("gone", y.count(6), 1);
        due("carried", y.tenant(0, 4), 4);
    }

    private static void backToWhatWasKeptLast() {
        sentence("As KEPT last (it is KEPT no more then): how many are left");
        HookOrCrook x = laid("b0,1,1,0;t1,1,1;");
        x.hook(0, 2);
        x.keep();
        x.hook(0, 3);
        x.keep();
        x.hook(0, 4);
        due("back", x.back(), 1);
        due("reach", x.tenant(0, 0), 3);
        due("back", x.back(), 0);
        due("reach", x.tenant(0, 0), 2);
        due("back", x.back(), NO);
        due("reach", x.tenant(0, 0), 2);
        x.hook(0, 5);
        due("keep", x.keep(), 1);
        due("lay", x.lay(), 1);
        due("by lay none is KEPT", x.back(), NO);
        due("reach", x.tenant(0, 0), 1);
    }

    private static void nothingIsUndoneByBack() {
        sentence("nothing is UNDONE then");
        HookOrCrook x = laid("b0,1,1,0;t1,1,1;");
        x.hook(0, 2);
        x.keep();
        due("what can be UNDONE", x.count(7), 1);
        due("back", x.back(), 0);
        due("what can be UNDONE", x.count(7), 0);
        due("undo", x.undo(), NO);
        due("reach", x.tenant(0, 0), 2);
        x.hook(0, 3);
        due("refused", x.back(), NO);
        due("what can be UNDONE", x.count(7), 1);
        due("undo", x.undo(), 0);
        due("reach", x.tenant(0, 0), 2);
    }
}

/** The bounds that "Terms" names of EACH FOR HIMSELF, SHARE, LEAST hook, POLE and FIRST DAY. */
public final class OutlookBoundsTest extends Answers {
    public static void main(String[] args) {
        whatHasBeenCarriedTodayIsCarried();
        tenants0First();
        whoAreNotWarm();
        oneBehindTheOther();
        theLowestFirst();
        asManyAsTheyCan();
        asLongAsTheyAreNotWarm();
        asIfNoKeepersWalked();
        fromDayToDay();
        warmByTodayTo99();
        warmByTheEndOfIt();
        allWarmToday();
        allWarmOnDay99();
        allWarmNone();
        shareHasMostWeight();
        shareOfToday();
        shareOfSeveralTheFirst();
        shareNobodyBehindAll();
        shareWithoutKeepers();
        shareOfAllThatCanBe();
        shareOfAB();
        leastHook1To20();
        leastHookByDay99();
        leastHookOthersAsTheyAre();
        leastHookNone();
        pole1To20();
        poleNoReachMoreThanIt();
        poleNone();
        firstDayTodayTo99();
        firstDayByKind();
        firstDayIfNobodyDoesAhead();
        firstDayHavingCarriedNothing();
        firstDayNone();
        finish("all bounds of what would be hold");
    }

    private static void shares(String text, int most, int... owners) {
        sharesOf(laid(text), most, owners);
    }

    private static void sharesOf(HookOrCrook x, int most, int... owners) {
        due("share(-1)", x.share(-1), most);
        for (int b = 0; b < owners.length; b++) {
            due("share(" + b + ")", x.share(b), owners[b]);
        }
    }

    private static void whatHasBeenCarriedTodayIsCarried() {
        sentence("EACH FOR HIMSELF from today on (what has been carried today is carried)");
        HookOrCrook x = laid("b3,1,5,0;b3,1,4,0;t1,9,9;");
        x.take(0, 0);
        due("5 and 4 are 9", x.warmBy(0), 1);
        HookOrCrook y = laid("b3,1,5,0;b3,1,5,0;t1,9,9;");
        y.take(0, 0);
        due("5 and 5 are more", y.warmBy(0), 0);
        due("not so tomorrow", y.warmBy(1), 1);
        due("all", y.allWarm(), 1);
        y.pass(1);
        due("today", y.allWarm(), 1);
    }

    private static void tenants0First() {
        sentence("TENANTS, 0 first");
        HookOrCrook x = laid("b3,1,5,0;b3,1,5,0;t1,9,5;t1,9,5;t1,9,5;");
        due("0 and 1", x.warmBy(99), 3);
        x.take(1, 0);
        due("1 is, so 0 has the other", x.warmBy(99), 3);
        HookOrCrook y = laid("b3,1,5,0;t1,9,5;t1,9,5;t1,9,5;t1,9,5;");
        due("0 alone", y.warmBy(0), 1);
    }

    private static void whoAreNotWarm() {
        sentence("TENANTS who are not WARM");
        HookOrCrook x = laid("b3,1,5,0;b3,1,5,0;t1,40,5;t1,40,5;");
        x.take(0, 0);
        due("WARM with 5 of 5: 1 has the other", x.warmBy(0), 3);
        HookOrCrook y = laid("b3,1,5,0;b3,1,5,0;t1,40,6;t1,40,5;");
        y.take(0, 0);
        due("not so with 5 of 6: he has the other, too", y.warmBy(0), 1);
    }

    private static void oneBehindTheOther() {
        sentence("one behind the other");
        // In turn each would have 2 and 2.
        HookOrCrook x = laid("b3,1,2,0;b3,1,2,0;b3,1,2,0;b3,1,2,0;t1,40,8;t1,40,2;");
        due("0 has all four", x.warmBy(99), 1);
        // On each DAY it is 0 first again, then 1.
        HookOrCrook y = laid("b3,1,2,0;b3,1,2,0;b3,1,2,0;t1,2,4;t1,2,2;");
        due("DAY 0", y.warmBy(0), 2);
        due("DAY 1", y.warmBy(1), 3);
        HookOrCrook z = laid("b3,1,2,0;b3,1,2,1;b3,1,2,1;t1,2,4;t1,2,4;");
        due("0 has two", z.warmBy(99), 1);
    }

    private static void theLowestFirst() {
        sentence("BOUGHS, the lowest first");
        // The lowest number, not the least H or W: with 7 he is WARM, and 4 are left to the other.
        HookOrCrook x = laid("b0,9,7,0;b0,2,4,0;t9,40,7;t9,40,4;");
        due("both", x.warmBy(0), 3);
        HookOrCrook y = laid("b0,2,4,0;b0,9,7,0;t9,40,7;t9,40,4;");
        due("0 has both", y.warmBy(0), 1);
    }

    private static void asManyAsTheyCan() {
        sentence("TAKE as many BOUGHS as they can");
        // What is too heavy, too high or not DEAD is passed over, what is behind it had.
        HookOrCrook x = laid("b3,1,10,0;b0,9,1,0;b3,1,1,1;b1,1,1,0;b2,3,1,0;b3,1,4,0;b3,1,6,0;b3,1,5,0;t5,9,9;");
        due("4 and 5", x.warmBy(0), 1);
        HookOrCrook y = laid("b3,1,4,0;b3,1,6,0;b3,1,5,0;t5,9,10;");
        due("9 of 10", y.warmBy(0), 0);
        due("and 6 on the next DAY", y.warmBy(1), 1);
        due("C as W", laid("b3,1,20,0;t1,20,20;").warmBy(0), 1);
        due("C less than W", laid("b3,1,20,0;t1,19,20;").warmBy(99), 0);
    }

    private static void asLongAsTheyAreNotWarm() {
        sentence("as long as they are not WARM");
        due("WARM with just N: one is left", laid("b3,1,5,0;b3,1,5,0;t1,40,5;t1,40,5;").warmBy(0), 3);
        due("one less than N: none is left", laid("b3,1,5,0;b3,1,5,0;t1,40,6;t1,40,5;").warmBy(0), 1);
    }

    private static void asIfNoKeepersWalked() {
        sentence("(as if no KEEPERS walked)");
        HookOrCrook x = laid("b0,5,5,0;b2,2,5,0;t6,40,10;k1,1;");
        due("warmBy", x.warmBy(0), 1);
        due("allWarm", x.allWarm(), 0);
        due("leastHook", x.leastHook(0), 1);
        due("storm", x.storm(3, 1, 0), 1);
        due("storm", x.storm(3, 1, 1), 10);
        due("CAUGHT all the same", x.take(0, 0), 0);
    }

    private static void fromDayToDay() {
        sentence("on each DAY");
        // On DAY 3 it is DEAD, on DAY 8 FALLEN.
        String text = "b0,5,1,3;b0,6,1,3;b1,1,1,3;b2,2,1,3;b2,3,1,3;b3,20,1,3;t5,40,3;t1,40,3;f5;";
        HookOrCrook x = laid(text);
        due("DAY 2", x.warmBy(2), 0);
        due("DAY 3: 0, 3 and 5", x.warmBy(3), 1);
        due("DAY 7", x.warmBy(7), 1);
        due("DAY 8: 1, 2 and 4", x.warmBy(8), 3);
        due("all", x.allWarm(), 8);
        due("nothing changes", x.count(2) + x.count(6) + x.count(7), 0);
    }

    private static void warmByTodayTo99() {
        sentence("WARM BY a DAY d (today to 99). BAD");
        for (int today : new int[] {0, 1, 50, 99}) {
            HookOrCrook x = laidOn(today, "b3,1,5,0;t1,9,5;t1,9,5;");
            for (int d = -3; d <= 103; d++) {
                due("warmBy(" + d + ") on DAY " + today, x.warmBy(d), d >= today && d <= 99 ? 1 : BAD);
            }
            due("today", x.count(2), today);
        }
    }

    private static void warmByTheEndOfIt() {
        sentence("TENANTS (bits) who are at the end of it");
        HookOrCrook x = laid("b3,1,5,0;b3,1,5,2;b3,1,5,3;b3,1,5,99;".replace(",99;", ",60;") + "t1,9,5;t1,9,5;t1,9,5;t1,9,5;");
        int[] days = {0, 1, 2, 3, 59, 60, 99};
        int[] want = {1, 1, 3, 7, 7, 15, 15};
        for (int k = 0; k < days.length; k++) {
            due("warmBy(" + days[k] + ")", x.warmBy(days[k]), want[k]);
        }
        due("TENANT 3 alone", laid("b0,9,5,0;t1,9,5;t1,9,5;t1,9,5;t9,9,5;").warmBy(0), 8);
    }

    private static void allWarmToday() {
        sentence("ALL WARM: the first DAY on which all are (today, if all are now)");
        HookOrCrook x = laidOn(4, "b3,1,5,0;b3,1,5,0;b3,1,5,0;t1,9,5;t1,9,5;");
        due("they would be today", x.allWarm(), 4);
        x.take(0, 0);
        x.take(1, 1);
        due("they are now", x.allWarm(), 4);
        x.pass(1);
        due("still", x.allWarm(), 5);
        passTo(x, 99);
        due("on DAY 99", x.allWarm(), 99);
    }

    private static void allWarmOnDay99() {
        sentence("ALL WARM: DAY 99 is the last");
        String text = "b3,1,5,0;b3,1,5,0;b3,1,5,0;t1,5,15;";
        due("on DAYS 96, 97 and 98", laidOn(96, text).allWarm(), 98);
        due("on DAYS 97, 98 and 99", laidOn(97, text).allWarm(), 99);
        due("on DAYS 98 and 99 only 10", laidOn(98, text).allWarm(), NONE);
        due("by DAY 99", laidOn(97, text).warmBy(99), 1);
        due("by DAY 98", laidOn(97, text).warmBy(98), 0);
    }

    private static void allWarmNone() {
        sentence("ALL WARM: none");
        due("one lacks 1", laid("b3,1,5,0;b3,1,5,0;t1,9,5;t1,9,6;").allWarm(), NONE);
        due("one is enough for that", laid("b3,1,5,0;b3,1,5,0;b3,1,5,0;t1,4,1;t1,9,5;").allWarm(), NONE);
    }

    private static void shareHasMostWeight() {
        sentence("SHARE: that by which most weight is had");
        // The lowest first would have 3 and 3 of 10; 3 and 7 are 10.
        shares("b3,1,3,0;b3,1,3,0;b3,1,7,0;t1,10,9;", 10, 0, NONE, 0);
        // 6 and 4, 7 and 2 of 10 and 9.
        shares("b3,1,6,0;b3,1,7,0;b3,1,4,0;b3,1,2,0;t1,10,9;t1,9,9;", 19, 0, 1, 0, 1);
        shares("b3,1,10,0;t1,10,9;", 10, 0);
        shares("b3,1,11,0;t1,10,9;", 0, NONE);
        // Many light ones are no more than one heavy one of the same weight.
        shares("b3,1,9,0;b3,1,3,0;b3,1,3,0;b3,1,4,0;t1,10,60;", 10, NONE, 0, 0, 0);
    }

    private static void shareOfToday() {
        sentence("SHARE of today");
        HookOrCrook x = laid("b3,1,3,0;b3,1,3,1;b0,6,3,0;b0,5,3,0;b1,1,3,0;b2,3,3,0;b2,2,3,0;t5,40,1;f2;");
        sharesOf(x, 9, 0, NONE, NONE, 0, NONE, NONE, 0);
        x.pass(1);
        sharesOf(x, 12, 0, 0, NONE, 0, NONE, NONE, 0);
        x.pass(1);
        sharesOf(x, 21, 0, 0, 0, 0, 0, 0, 0);
        x.take(0, 0);
        sharesOf(x, 18, NONE, 0, 0, 0, 0, 0, 0);
        // What he has carried today is carried; on the next DAY it is not.
        HookOrCrook y = laid("b3,1,5,0;b3,1,5,0;b3,1,4,0;t1,9,9;");
        y.take(0, 0);
        sharesOf(y, 4, NONE, NONE, 0);
        y.pass(1);
        sharesOf(y, 9, NONE, 0, 0);
        // 4 are left of 9: each of the others alone, not both.
        HookOrCrook z = laid("b3,1,5,0;b3,1,2,0;b3,1,3,0;t1,9,9;");
        z.take(0, 0);
        sharesOf(z, 3, NONE, NONE, 0);
    }

    private static void shareOfSeveralTheFirst() {
        sentence("of several the first (by who has BOUGH 0, the lowest, then 1, ..)");
        shares("b3,1,5,0;t1,5,5;t1,5,5;t1,5,5;t1,5,5;", 5, 0);
        shares("b3,1,5,0;b3,1,5,0;t1,5,5;t1,5,5;", 10, 0, 1);
        shares("b3,1,2,0;b3,1,3,0;b3,1,5,0;t1,5,5;t1,5,5;", 10, 0, 0, 1);
        shares("b3,1,5,0;b3,1,2,0;b3,1,3,0;t1,5,5;t1,5,5;", 10, 0, 1, 1);
        // BOUGH 0 goes to 1 only where 0 having it makes less.
        shares("b3,1,4,0;b3,1,5,0;t1,5,5;t1,4,5;", 9, 1, 0);
        shares("b3,1,4,0;b0,5,5,0;t5,5,5;t1,5,5;", 9, 1, 0);
        shares("b3,1,4,0;b0,5,5,0;t1,5,5;t5,5,5;", 9, 0, 1);
    }

    private static void shareNobodyBehindAll() {
        sentence("of several the first (nobody behind all)");
        shares("b3,1,5,0;b3,1,5,0;b3,1,5,0;t1,5,5;", 5, 0, NONE, NONE);
        shares("b3,1,5,0;b3,1,5,0;b3,1,5,0;t1,4,5;t1,5,5;", 5, 1, NONE, NONE);
        shares("b3,1,3,0;b3,1,2,0;b3,1,3,0;t1,5,5;", 5, 0, 0, NONE);
        shares("b3,1,4,0;b3,1,5,0;b3,1,5,0;t1,5,5;", 5, NONE, 0, NONE);
        // That the last TENANT has BOUGH 0 is ahead of that nobody has it.
        shares("b0,9,5,0;b3,1,5,0;t1,5,5;t1,1,1;t1,1,1;t9,5,5;", 10, 3, 0);
    }

    private static void shareWithoutKeepers() {
        sentence("(KEEPERS do not matter)");
        shares("b0,5,5,0;b0,5,6,0;t9,40,5;k1,1;", 11, 0, 0);
        // Nor does who is WARM.
        HookOrCrook x = laid("b3,1,5,0;b3,1,5,0;t9,40,5;");
        x.take(0, 0);
        sharesOf(x, 5, NONE, 0);
    }

    private static void shareOfAllThatCanBe() {
        sentence("SHARE of 8 BOUGHS and 4 TENANTS");
        String tenants = "t1,40,5;t1,40,5;t1,40,5;t1,40,5;";
        shares("b3,1,20,0;".repeat(8) + tenants, 160, 0, 0, 1, 1, 2, 2, 3, 3);
        shares("b3,1,20,0;".repeat(8) + tenants.replace("40", "39"), 80, 0, 1, 2, 3, NONE, NONE, NONE, NONE);
        shares("b3,1,20,0;".repeat(8) + tenants.replace("40", "19"), 0, NONE, NONE, NONE, NONE, NONE, NONE, NONE, NONE);
        shares("b3,1,11,0;".repeat(8) + "t1,21,5;t1,22,5;t1,32,5;t1,33,5;", 88, 0, 1, 1, 2, 2, 3, 3, 3);
    }

    private static void shareOfAB() {
        sentence("as much (b = -1), whose a BOUGH is. BAD");
        HookOrCrook x = laid("b3,1,5,0;b3,1,5,9;t1,5,5;");
        int[] want = {BAD, BAD, 5, 0, NONE, BAD, BAD, BAD};
        for (int k = 0; k < want.length; k++) {
            due("share(" + (k - 3) + ")", x.share(k - 3), want[k]);
        }
    }

    private static void leastHook1To20() {
        for (int h = 1; h <= 20; h++) {
            sentence("LEAST hook: the least REACH (1 to 20): " + h);
            // 1 is WARM only if he has it ahead of DAY 30; then it has FALLEN, and 0 has it.
            HookOrCrook x = laid("b0," + h + ",5,0;t1,40,5;t20,40,5;f30;");
            due("of 1", x.leastHook(1), h == 1 ? NONE : h);
            due("of 0", x.leastHook(0), h);
            due("REACH of 1", x.tenant(1, 0), 20);
            due("REACH of 0", x.tenant(0, 0), 1);
            HookOrCrook y = laid("b2," + h + ",5,0;t1,40,5;t1,40,5;f30;");
            due("HIDDEN, of 1", y.leastHook(1), h <= 17 ? h + 3 : NONE);
        }
    }

    private static void leastHookByDay99() {
        sentence("LEAST hook: WARM BY DAY 99");
        String text = "b3,1,5,0;b3,1,5,0;b0,7,5,60;t9,5,15;f30;";
        due("by one FALLEN on DAY 90", laid(text).leastHook(0), 1);
        due("from DAY 97 on", laidOn(97, text).leastHook(0), 1);
        due("from DAY 98 on", laidOn(98, text).leastHook(0), NONE);
        // DAY 89 is the last without FALLEN ones; from 0 on 1 has one, he two.
        HookOrCrook x = laidOn(89, "b0,7,5,60;b0,7,5,60;t1,5,10;t1,5,5;f30;");
        due("of 0 on DAY 89", x.leastHook(0), 7);
        due("of 1 on DAY 89", x.leastHook(1), 1);
    }

    private static void leastHookOthersAsTheyAre() {
        sentence("LEAST hook: others as they are");
        String text = "b0,7,5,0;t6,40,5;t1,40,5;f30;";
        HookOrCrook x = laid(text);
        due("of 1", x.leastHook(1), 7);
        x.hook(0, 7);
        due("of 1, if 0 has it first", x.leastHook(1), NONE);
        due("of 0", x.leastHook(0), 1);
        x.hook(1, 7);
        due("of 0, ahead of 1", x.leastHook(0), 7);
        due("reaches", x.tenant(0, 0) + x.tenant(1, 0), 14);
        // P is no bound of it, and none is CAUGHT.
        due("longer than P", laid("b0,7,5,0;t6,40,5;t1,40,5;f30;k1,1;").leastHook(1), 7);
    }

    private static void leastHookNone() {
        sentence("LEAST hook: none");
        due("too little", laid("b3,1,5,0;t9,40,6;").leastHook(0), NONE);
        due("just enough", laid("b3,1,5,0;t9,40,5;").leastHook(0), 1);
        due("too heavy", laid("b3,1,5,0;t9,4,5;").leastHook(0), NONE);
        // 18 and 3 are 21.
        due("18 high, HIDDEN", laid("b2,18,5,0;t1,40,5;t1,40,5;f30;").leastHook(1), NONE);
        due("17 high, HIDDEN", laid("b2,17,5,0;t1,40,5;t1,40,5;f30;").leastHook(1), 20);
        HookOrCrook x = laid("b3,1,5,0;t9,40,5;");
        x.take(0, 0);
        passTo(x, 99);
        due("WARM already, on DAY 99", x.leastHook(0), 1);
    }

    private static void pole1To20() {
        for (int p = 1; p <= 20; p++) {
            sentence("POLE: the least P (1 to 20): " + p);
            // If 0 does not have the light one ahead of DAY 30, he has both heavy ones then.
            due("pole", laid("b1,1,6,0;b1,1,5,0;b0," + p + ",1,0;t20,40,7;t1,40,5;f30;").pole(), p);
            HookOrCrook x = laid("b1,1,6,0;b1,1,5,0;b0," + p + ",1,0;t" + p + ",40,7;t1,40,5;f30;");
            due("pole by hooks as long", x.pole(), p);
            due("reach", x.tenant(0, 0), p);
            x.hook(0, Math.max(1, p - 1));
            due("pole by hooks too short", x.pole(), p == 1 ? 1 : NONE);
        }
    }

    private static void poleNoReachMoreThanIt() {
        sentence("POLE: were no REACH more than it");
        // 1 must have the light one ahead of DAY 30, else 0 has all; and 0 must not have it, so his hook stays 1 long.
        for (int h = 2; h <= 20; h++) {
            due("H " + h, laid("b0," + h + ",1,0;b1,1,5,0;b1,1,5,0;t1,40,10;t20,40,1;f30;").pole(), h);
            due("H " + h + " of both", laid("b0," + h + ",1,0;b1,1,5,0;b1,1,5,0;t20,40,10;t20,40,1;f30;").pole(), NONE);
        }
        // P of the TEXT, and that one would be CAUGHT, do not matter.
        due("k1,1", laid("b1,1,6,0;b1,1,5,0;b0,9,1,0;t20,40,7;t1,40,5;f30;k1,1;").pole(), 9);
        due("k20,9", laid("b1,1,6,0;b1,1,5,0;b0,9,1,0;t20,40,7;t1,40,5;f30;k20,9;").pole(), 9);
    }

    private static void poleNone() {
        sentence("POLE: none");
        due("one lacks 1", laid("b3,1,5,0;b3,1,5,0;t1,40,5;t1,40,6;").pole(), NONE);
        due("all are WARM", laid("b3,1,5,0;b3,1,5,0;t1,40,5;t1,40,5;").pole(), 1);
        String text = "b3,1,5,0;b3,1,5,0;t1,5,10;";
        due("by DAY 99, from 98 on", laidOn(98, text).pole(), 1);
        due("by DAY 99, from 99 on", laidOn(99, text).pole(), NONE);
    }

    private static void firstDayTodayTo99() {
        sentence("FIRST DAY (today to 99)");
        HookOrCrook x = laid("b3,1,1,0;b3,1,1,5;b1,1,1,60;t1,1,1;f30;");
        due("today", x.firstDay(0, 0), 0);
        due("DAY 5", x.firstDay(0, 1), 5);
        due("DAY 90", x.firstDay(0, 2), 90);
        for (int today : new int[] {4, 5, 6, 89, 90, 91, 99}) {
            passTo(x, today);
            due("today is " + today, x.firstDay(0, 0), today);
            due("today is " + today, x.firstDay(0, 1), Math.max(5, today));
            due("today is " + today, x.firstDay(0, 2), Math.max(90, today));
        }
    }

    private static void firstDayByKind() {
        sentence("FIRST DAY on which a TENANT can TAKE a BOUGH");
        HookOrCrook x = laid("b0,7,1,3;b0,8,1,3;b1,1,1,3;b2,4,1,3;b2,5,1,3;b3,20,1,3;b3,1,9,3;b3,1,10,3;t7,9,9;f4;");
        int[] want = {3, 7, 7, 3, 7, 3, 3, NONE};
        for (int b = 0; b < want.length; b++) {
            due("firstDay(0, " + b + ")", x.firstDay(0, b), want[b]);
        }
    }

    private static void firstDayIfNobodyDoesAhead() {
        sentence("FIRST DAY, if nobody does ahead");
        HookOrCrook x = laid("b0,5,5,0;t5,40,60;t1,40,60;f8;");
        due("0 could have it all the while", x.firstDay(1, 0), 8);
        due("0", x.firstDay(0, 0), 0);
    }

    private static void firstDayHavingCarriedNothing() {
        sentence("FIRST DAY, having carried nothing that DAY");
        HookOrCrook x = laid("b3,1,9,0;b3,1,9,0;b3,1,10,0;t1,9,9;");
        x.take(0, 0);
        due("can", x.can(0, 1), 0);
        due("W as C", x.firstDay(0, 1), 0);
        due("W more than C", x.firstDay(0, 2), NONE);
    }

    private static void firstDayNone() {
        sentence("FIRST DAY: none (gone, too). BAD");
        HookOrCrook x = laid("b3,1,5,0;b3,1,9,0;t1,5,9;t1,4,9;");
        due("can be had", x.firstDay(0, 0), 0);
        due("too heavy for 1", x.firstDay(1, 0), NONE);
        due("too heavy for both", x.firstDay(0, 1), NONE);
        x.take(0, 0);
        due("gone", x.firstDay(0, 0), NONE);
        due("gone, no TENANT", x.firstDay(2, 0), BAD);
        due("no BOUGH", x.firstDay(0, 2), BAD);
        x.undo();
        due("not gone", x.firstDay(0, 0), 0);
    }
}

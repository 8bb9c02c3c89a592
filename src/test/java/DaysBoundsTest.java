import java.util.ArrayList;
import java.util.List;

/** The bounds that "Terms" names of what is LAID and of DAYS, TAKING, KEEPERS, hooks, bark and what is UNDONE. */
public final class DaysBoundsTest extends Answers {
    private static final int ASH = 0, OAK = 1, HIDDEN = 2, DRIFT = 3;

    public static void main(String[] args) {
        ofABoughAndATenantAtLeast();
        withoutFault();
        atFirst();
        laidAnew();
        whatWasLaidAhead();
        fiveHundredAndTwelveCalls();
        daysAre0To99();
        oneTo30DaysGoBy();
        whatIsDead();
        whatIsGone();
        anAshOne();
        anOakOne();
        aHiddenOne();
        aDriftOne();
        anyThatHasFallen();
        whatHeHasCarriedTodayAndW();
        hisStackIsWMore();
        caughtIfItHasNotFallen();
        caughtIfItIsNoDriftOne();
        caughtOnADayOnWhichKeepersWalk();
        caughtWithAReachOfMoreThanP();
        whatIsLostByBeingCaught();
        warmWithNOrMore();
        allCanCarryAgain();
        aHookIs1To20Long();
        ringedIsWhatIsNotDead();
        deadFromTodayOn();
        allOfOneCallAtOnce();
        theLatestOfThese();
        theLast8CanBe();
        suchByWhichNothingBecomesAnother();
        whatIsNoneOfThese();
        finish("all bounds of DAYS hold");
    }

    private static void cans(HookOrCrook x, String when, int... want) {
        for (int b = 0; b < want.length; b++) {
            due(when + ": can(0, " + b + ")", x.can(0, b), want[b]);
        }
    }

    private static void ofABoughAndATenantAtLeast() {
        sentence("LAID is a TEXT of a BOUGH and a TENANT at least (NO else)");
        HookOrCrook x = laid("b0,1,1,0;t7,1,1;");
        for (String text : new String[] {"", "b0,2,2,0;", "t8,2,2;", "k2,2;f2;", "b0,2,2,0;b0,2,2,0;k2,2;", "f2;t8,2,2;t8,2,2;"}) {
            put(x, text);
            due("fault of " + text, x.fault(), NONE);
            due("lay of " + text, x.lay(), NO);
            due("reach", x.tenant(0, 0), 7);
            due("P", x.count(3), 20);
            due("THE TEXT stays", x.count(9), text.length());
        }
        due("the least one", laid("t8,1,1;b0,1,1,0;").count(0), 1);
    }

    private static void withoutFault() {
        sentence("LAID is a TEXT without FAULT (NO else)");
        HookOrCrook x = laid("b0,1,1,0;t7,1,1;");
        x.pass(3);
        x.keep();
        for (String text : new String[] {"b0,2,2,0;t8,2,2;x", "x;b0,2,2,0;t8,2,2;", "b0,2,2,0;t8,2,2;f0;", "b0,2,2,0;t8,2,2"}) {
            put(x, text);
            due("lay of " + text, x.lay(), NO);
            due("day", x.count(2), 3);
            due("reach", x.tenant(0, 0), 7);
            due("what can be UNDONE", x.count(7), 1);
            due("KEPT", x.count(8), 1);
        }
        // It is THE TEXT as it is now, not as it was LAID.
        put(x, "b0,2,2,0;t8,2,2;");
        x.write('f');
        due("lay", x.lay(), NO);
        x.write('2');
        x.write(';');
        due("lay", x.lay(), 1);
        due("F", x.count(5), 2);
        due("day", x.count(2), 0);
        due("what can be UNDONE", x.count(7), 0);
        due("KEPT", x.count(8), 0);
        due("THE TEXT stays", x.count(9), 19);
    }

    private static void atFirst() {
        sentence("at first b0,6,4,0;..k8,3;f6;, and THE TEXT is empty");
        HookOrCrook x = new HookOrCrook();
        due("BOUGHS", x.count(0), 6);
        due("no seventh", x.bough(6, 0), BAD);
        due("TENANTS", x.count(1), 3);
        due("no fourth", x.tenant(3, 0), BAD);
        due("letters", x.count(9), 0);
        due("lay", x.lay(), NO);
        due("BOUGHS", x.count(0), 6);
        put(x, "b0,6,4,0;b0,9,7,2;b1,5,9,0;b2,4,5,1;b3,15,3,4;b0,12,6,8;t6,8,9;t10,6,12;t7,9,6;k8,3;f6;");
        HookOrCrook y = new HookOrCrook();
        due("lay", x.lay(), 6);
        for (int what = 0; what < 9; what++) {
            due("count(" + what + ")", y.count(what), x.count(what));
        }
        for (int k = 0; k < 42; k++) {
            due("bough(" + k / 7 + ", " + k % 7 + ")", y.bough(k / 7, k % 7), x.bough(k / 7, k % 7));
        }
        for (int k = 0; k < 18; k++) {
            due("tenant(" + k / 6 + ", " + k % 6 + ")", y.tenant(k / 6, k % 6), x.tenant(k / 6, k % 6));
        }
    }

    private static void laidAnew() {
        sentence("LAID: DAY 0, nothing gone, no STACKS, nothing UNDONE, KEPT (THE TEXT stays)");
        HookOrCrook x = laid("b3,1,5,0;b3,1,4,0;b0,1,3,50;t7,8,9;t7,8,9;");
        x.pass(9);
        x.take(0, 0);
        x.take(1, 1);
        x.hook(0, 3);
        x.ring(2);
        x.keep();
        due("lay", x.lay(), 3);
        due("day", x.count(2), 0);
        due("gone", x.count(6), 0);
        due("what can be UNDONE", x.count(7), 0);
        due("KEPT", x.count(8), 0);
        due("letters", x.count(9), 42);
        due("undo", x.undo(), NO);
        due("back", x.back(), NO);
        for (int b = 0; b < 3; b++) {
            due("gone", x.bough(b, 6), 0);
        }
        due("RINGED no more", x.bough(2, 3), 50);
        for (int i = 0; i < 2; i++) {
            due("reach", x.tenant(i, 0), 7);
            due("stack", x.tenant(i, 3), 0);
            due("carried", x.tenant(i, 4), 0);
        }
    }

    private static void whatWasLaidAhead() {
        sentence("what was LAID ahead counts no more");
        String small = "b0,5,9,0;b1,3,2,1;t5,8,9;";
        HookOrCrook x = laid("b3,1,20,0;".repeat(8) + "t20,40,60;".repeat(4) + "k1,1;f30;");
        for (int b = 0; b < 8; b++) {
            x.take(b / 2, b);
        }
        x.keep();
        put(x, small);
        due("lay", x.lay(), 2);
        due("WASTE", x.waste(), 9);
        due("NEEDS", x.needs(), 9);
        due("SHARE", x.share(-1), 0);
        due("STICKS", x.sticks(20, 0), 0);
        due("WHOSE hook", x.whose(1, 99), 1);
        due("A STORM", x.storm(1, 30, 1), 2);
        HookOrCrook y = laid(small);
        List<Integer> seen = new ArrayList<>();
        List<Integer> due = new ArrayList<>();
        ask(x, seen);
        ask(y, due);
        holds("as in a new one: " + seen + " for " + due, seen.equals(due));
    }

    private static void ask(HookOrCrook x, List<Integer> answers) {
        for (int what = 0; what <= 9; what++) {
            answers.add(x.count(what));
        }
        for (int b = 0; b < 8; b++) {
            answers.add(x.bough(b, 6));
            answers.add(x.share(b));
            answers.add(x.whose(b, 0));
        }
        for (int i = 0; i < 4; i++) {
            answers.add(x.tenant(i, 3));
            answers.add(x.can(i, 0));
            answers.add(x.leastHook(i));
            answers.add(x.firstDay(i, 1));
        }
        for (int z = 0; z < 30; z++) {
            answers.add(x.storm(z, 30, 0));
            answers.add(x.storm(z, 30, 1));
        }
        answers.add(x.warmBy(99));
        answers.add(x.allWarm());
        answers.add(x.pole());
    }

    private static void fiveHundredAndTwelveCalls() {
        sentence("An object is used for at most 512 calls");
        HookOrCrook x = new HookOrCrook();
        for (int call = 1; call <= 510; call++) {
            due("hook", x.hook(0, call % 20 + 1), call == 1 ? 6 : (call - 1) % 20 + 1);
        }
        due("the 511th", x.undo(), 7);
        due("the 512th", x.tenant(0, 0), 509 % 20 + 1);
    }

    private static void daysAre0To99() {
        sentence("DAYS are 0 to 99; NO: above 99");
        HookOrCrook x = new HookOrCrook();
        due("the first", x.count(2), 0);
        passTo(x, 90);
        due("to 100", x.pass(10), NO);
        due("to 120", x.pass(30), NO);
        due("day", x.count(2), 90);
        due("what can be UNDONE", x.count(7), 3);
        due("to 99", x.pass(9), 99);
        due("to 100", x.pass(1), NO);
        due("to 129", x.pass(30), NO);
        due("day", x.count(2), 99);
        due("what can be UNDONE", x.count(7), 4);
        due("undo", x.undo(), 3);
        due("day", x.count(2), 90);
    }

    private static void oneTo30DaysGoBy() {
        sentence("n (1 to 30) DAYS go by. BAD");
        for (int n = -40; n <= 70; n++) {
            HookOrCrook x = laidOn(5, "b0,1,1,0;t1,1,1;");
            boolean is = n >= 1 && n <= 30;
            due("pass(" + n + ")", x.pass(n), is ? 5 + n : BAD);
            due("day", x.count(2), is ? 5 + n : 5);
            due("what can be UNDONE", x.count(7), is ? 2 : 1);
        }
    }

    private static void whatIsDead() {
        for (int dead : new int[] {0, 1, 30, 60}) {
            sentence("DEAD from DAY " + dead + " on");
            if (dead > 0) {
                HookOrCrook x = laidOn(dead - 1, "b0,1,1," + dead + ";b3,1,1," + dead + ";t9,9,9;");
                due("DEAD a DAY ahead", x.bough(0, 4), 0);
                cans(x, "a DAY ahead", 0, 0);
                due("take(0, 0)", x.take(0, 0), NO);
                due("take(0, 1)", x.take(0, 1), NO);
                due("gone", x.count(6), 0);
            }
            HookOrCrook y = laidOn(dead, "b0,1,1," + dead + ";b3,1,1," + dead + ";t9,9,9;");
            due("DEAD", y.bough(0, 4), 1);
            cans(y, "on that DAY", 1, 1);
            due("take(0, 0)", y.take(0, 0), 1);
            due("take(0, 1)", y.take(0, 1), 2);
        }
    }

    private static void whatIsGone() {
        sentence("that is not gone");
        HookOrCrook x = laid("b3,1,1,0;b3,1,1,0;t9,9,9;t9,9,9;");
        x.take(0, 0);
        due("can he", x.can(0, 0), 0);
        due("can another", x.can(1, 0), 0);
        due("take", x.take(1, 0), NO);
        due("can another have the other", x.can(1, 1), 1);
        passTo(x, 99);
        due("gone for ever", x.can(1, 0), 0);
        due("stack", x.tenant(1, 3), 0);
    }

    private static void anAshOne() {
        sentence("an ASH one, if H is no more than his REACH");
        inReach(ASH, 0);
    }

    private static void aHiddenOne() {
        sentence("a HIDDEN one, if H and 3 is no more than his REACH");
        inReach(HIDDEN, 3);
    }

    private static void anOakOne() {
        sentence("an OAK one only if it has FALLEN");
        inReach(OAK, 100);
    }

    private static void aDriftOne() {
        sentence("a DRIFT one always");
        inReach(DRIFT, -100);
    }

    /** Each H by each REACH, on the last DAY on which it has not FALLEN and on the first on which it has. */
    private static void inReach(int kind, int further) {
        for (int h = 1; h <= 20; h++) {
            HookOrCrook x = laidOn(1, "b" + kind + "," + h + ",2,0;t1,2,2;k20,1;f2;");
            for (int r = 1; r <= 20; r++) {
                x.hook(0, r);
                due("H " + h + ", REACH " + r, x.can(0, 0), h + further <= r ? 1 : 0);
            }
            due("take by 20", x.take(0, 0), h + further <= 20 ? 2 : NO);
            HookOrCrook y = laidOn(2, "b" + kind + "," + h + ",2,0;t1,2,2;k20,1;f2;");
            due("FALLEN, H " + h, y.can(0, 0), 1);
        }
    }

    private static void anyThatHasFallen() {
        sentence("any that has FALLEN");
        HookOrCrook x = laidOn(33, "b0,20,1,4;b1,20,1,4;b2,20,1,4;b3,20,1,4;t1,9,9;f30;");
        cans(x, "on DAY 33", 0, 0, 0, 1);
        x.pass(1);
        cans(x, "on DAY 34", 1, 1, 1, 1);
        for (int b = 0; b < 4; b++) {
            due("take(0, " + b + ")", x.take(0, b), b + 1);
        }
        // Not even one that has FALLEN, if he can't carry it.
        due("too heavy", laidOn(34, "b0,20,10,4;t1,9,9;f30;").can(0, 0), 0);
    }

    private static void whatHeHasCarriedTodayAndW() {
        sentence("if what he has carried today and W are no more than C");
        for (int w = 1; w <= 20; w++) {
            due("W " + w + ", C 10", laid("b3,1," + w + ",0;t1,10,60;").can(0, 0), w <= 10 ? 1 : 0);
        }
        HookOrCrook x = laid("b3,1,20,0;b3,1,15,0;b3,1,5,0;b3,1,6,0;b3,1,1,0;t1,40,60;t1,1,1;");
        x.take(0, 0);
        x.take(0, 1);
        cans(x, "35 of 40", 0, 0, 1, 0, 1);
        due("take(0, 3)", x.take(0, 3), NO);
        due("take(0, 2)", x.take(0, 2), 40);
        cans(x, "40 of 40", 0, 0, 0, 0, 0);
        due("another's back", x.can(1, 4), 1);
        due("carried", x.tenant(0, 4), 40);
    }

    private static void hisStackIsWMore() {
        sentence("It is gone then, his STACK W more");
        HookOrCrook x = laid("b3,1,20,0;b3,1,20,0;b3,1,1,0;t1,40,60;t1,40,60;");
        due("take(0, 0)", x.take(0, 0), 20);
        due("take(0, 1)", x.take(0, 1), 40);
        due("take(1, 2)", x.take(1, 2), 1);
        due("stack", x.tenant(0, 3), 40);
        due("gone", x.bough(2, 6), 1);
        due("how many are gone", x.count(6), 3);
    }

    private static void caughtIfItHasNotFallen() {
        sentence("CAUGHT who TAKES a BOUGH that has not FALLEN");
        String text = "b0,1,2,0;b2,1,2,0;t5,9,9;k4,1;f3;";
        due("not FALLEN by a DAY", laidOn(2, text).take(0, 0), 0);
        due("FALLEN", laidOn(3, text).take(0, 0), 2);
        due("HIDDEN, not FALLEN by a DAY", laidOn(2, text).take(0, 1), 0);
        due("HIDDEN, FALLEN", laidOn(3, text).take(0, 1), 2);
        due("OAK, FALLEN", laidOn(3, "b1,1,2,0;t5,9,9;k4,1;f3;").take(0, 0), 2);
        // FALLEN counts even for one that is in reach of his hook only by that.
        due("far above, FALLEN", laidOn(3, "b0,20,2,0;t5,9,9;k4,1;f3;").take(0, 0), 2);
    }

    private static void caughtIfItIsNoDriftOne() {
        sentence("CAUGHT who TAKES a BOUGH that is no DRIFT one");
        HookOrCrook x = laid("b3,1,2,0;b0,1,3,0;b2,1,4,0;t5,9,9;t5,9,9;t5,9,9;k4,1;f3;");
        due("DRIFT", x.take(0, 0), 2);
        due("ASH", x.take(1, 1), 0);
        due("HIDDEN", x.take(2, 2), 0);
    }

    private static void caughtOnADayOnWhichKeepersWalk() {
        sentence("CAUGHT on a DAY on which KEEPERS walk");
        int[] walked = {1, 0, 0, 0, 1, 0, 0, 0, 1};
        for (int day = 0; day < walked.length; day++) {
            due("DAY " + day, laidOn(day, "b0,1,2,0;t5,9,9;k4,4;f30;").take(0, 0), walked[day] == 1 ? 0 : 2);
        }
    }

    private static void caughtWithAReachOfMoreThanP() {
        sentence("CAUGHT with a REACH of more than P");
        for (int p = 1; p <= 20; p++) {
            for (int r = 1; r <= 20; r++) {
                HookOrCrook x = laid("b0,1,2,0;t" + r + ",9,9;k" + p + ",1;");
                due("REACH " + r + ", P " + p, x.take(0, 0), r > p ? 0 : 2);
            }
        }
        HookOrCrook y = laid("b0,1,2,0;b0,1,2,0;b0,1,2,0;t4,9,9;k4,1;");
        due("as long as P", y.take(0, 0), 2);
        y.hook(0, 5);
        due("made longer", y.take(0, 1), 0);
        y.hook(0, 4);
        due("made shorter", y.take(0, 2), 2);
    }

    private static void whatIsLostByBeingCaught() {
        sentence("his STACK is 0 then, that BOUGH is gone all the same, and what he has carried today W more");
        HookOrCrook x = laid("b3,1,3,0;b0,1,4,0;b3,1,3,0;b3,1,2,0;t5,9,3;t5,9,9;k4,1;");
        x.take(0, 0);
        x.take(1, 3);
        due("WARM", x.tenant(0, 5), 1);
        due("CAUGHT", x.take(0, 1), 0);
        due("stack", x.tenant(0, 3), 0);
        due("WARM no more", x.tenant(0, 5), 0);
        due("needs", x.needs(), 3 + 7);
        due("gone", x.bough(1, 6), 1);
        due("gone are", x.count(6), 3);
        due("carried", x.tenant(0, 4), 7);
        due("3 more are too much", x.can(0, 2), 0);
        due("another's stack", x.tenant(1, 3), 2);
        due("all at once", x.undo(), 2);
        due("stack", x.tenant(0, 3), 3);
        due("carried", x.tenant(0, 4), 3);
        due("gone", x.bough(1, 6), 0);
    }

    private static void warmWithNOrMore() {
        sentence("WARM is a HEARTH whose STACK is N or more");
        HookOrCrook x = laid("b3,1,4,0;b3,1,1,0;b3,1,1,0;t1,9,5;");
        int[] stacks = {4, 5, 6};
        due("0 of 5", x.tenant(0, 5), 0);
        for (int b = 0; b < 3; b++) {
            due("take", x.take(0, b), stacks[b]);
            due(stacks[b] + " of 5", x.tenant(0, 5), stacks[b] >= 5 ? 1 : 0);
            due("by today", x.warmBy(0), 1);
        }
        due("1 of 1", warm("b3,1,1,0;t1,40,1;"), 1);
        due("59 of 60", warm("b3,1,20,0;b3,1,20,0;b3,1,19,0;t1,40,60;"), 0);
        due("60 of 60", warm("b3,1,20,0;b3,1,20,0;b3,1,20,0;t1,40,60;"), 1);
    }

    /** Whether TENANT 0 is WARM when he has taken one BOUGH a DAY. */
    private static int warm(String text) {
        HookOrCrook x = laid(text);
        for (int b = 0; b < x.count(0); b++) {
            x.take(0, b);
            x.pass(1);
        }
        return x.tenant(0, 5);
    }

    private static void allCanCarryAgain() {
        sentence("A DAY goes by (all can carry C again)");
        HookOrCrook x = laid("b3,1,5,0;b3,1,5,0;b3,1,5,0;b3,1,5,0;t1,5,9;t1,9,9;");
        x.take(0, 0);
        x.take(1, 1);
        due("can he", x.can(0, 2), 0);
        due("can the other", x.can(1, 2), 0);
        x.pass(1);
        due("carried", x.tenant(0, 4) + x.tenant(1, 4), 0);
        due("stacks stay", x.tenant(0, 3) + x.tenant(1, 3), 10);
        due("can he", x.can(0, 2), 1);
        due("can the other", x.can(1, 2), 1);
        x.undo();
        due("carried", x.tenant(0, 4) + x.tenant(1, 4), 10);
        due("can he", x.can(0, 2), 0);
    }

    private static void aHookIs1To20Long() {
        sentence("A hook is made longer or shorter. BAD (r: 1 to 20)");
        for (int r = -5; r <= 30; r++) {
            HookOrCrook x = laid("b0,1,1,0;t7,1,1;t8,1,1;");
            boolean is = r >= 1 && r <= 20;
            due("hook(0, " + r + ")", x.hook(0, r), is ? 7 : BAD);
            due("reach", x.tenant(0, 0), is ? r : 7);
            due("another's", x.tenant(1, 0), 8);
            due("what can be UNDONE", x.count(7), is ? 1 : 0);
        }
    }

    private static void ringedIsWhatIsNotDead() {
        sentence("bark is RINGED: a BOUGH that is not DEAD. NO: it is DEAD, gone");
        String text = "b0,1,1,5;t9,9,9;f3;";
        HookOrCrook x = laidOn(4, text);
        due("a DAY ahead", x.ring(0), 5);
        due("a second time", x.ring(0), NO);
        due("what can be UNDONE", x.count(7), 2);
        for (int day : new int[] {5, 6, 8, 99}) {
            HookOrCrook y = laidOn(day, text);
            int many = y.count(7);
            due("DEAD on DAY " + day, y.ring(0), NO);
            due("DEAD from", y.bough(0, 3), 5);
            due("what can be UNDONE", y.count(7), many);
            y.take(0, 0);
            due("gone on DAY " + day, y.ring(0), NO);
        }
        due("DEAD from DAY 0 on", laid("b0,1,1,0;t1,1,1;").ring(0), NO);
        due("from DAY 60 on", laidOn(59, "b0,1,1,60;t1,1,1;").ring(0), 60);
        due("from DAY 60 on, on DAY 60", laidOn(60, "b0,1,1,60;t1,1,1;").ring(0), NO);
    }

    private static void deadFromTodayOn() {
        sentence("RINGED: is DEAD from today on");
        HookOrCrook x = laidOn(2, "b1,1,1,60;b0,1,1,60;t9,9,9;f3;");
        x.ring(0);
        due("from", x.bough(0, 3), 2);
        due("DEAD", x.bough(0, 4), 1);
        due("has FALLEN", x.bough(0, 5), 0);
        due("another", x.bough(1, 4), 0);
        due("not on the DAY ahead", x.whose(0, 1) + x.whose(0, 4), 0);
        due("first DAY", x.firstDay(0, 0), 5);
        x.pass(2);
        due("FALLEN on DAY 4", x.bough(0, 5), 0);
        x.pass(1);
        due("FALLEN on DAY 5", x.bough(0, 5), 1);
        HookOrCrook y = laid("b0,1,1,1;t9,9,9;");
        due("on DAY 0", y.ring(0), 1);
        due("from DAY 0 on", y.bough(0, 3), 0);
        due("can", y.can(0, 0), 1);
    }

    private static void allOfOneCallAtOnce() {
        sentence("UNDONE: all of one call at once");
        HookOrCrook x = laid("b3,1,2,0;t1,9,9;");
        x.take(0, 0);
        x.pass(30);
        x.pass(7);
        due("7 DAYS", x.undo(), 2);
        due("day", x.count(2), 30);
        due("30 DAYS", x.undo(), 1);
        due("day", x.count(2), 0);
        due("carried", x.tenant(0, 4), 2);
        due("a TAKEN one", x.undo(), 0);
        due("gone", x.count(6), 0);
        due("none", x.undo(), NO);
    }

    private static void theLatestOfThese() {
        sentence("UNDONE is the latest of these");
        HookOrCrook x = laid("b3,1,2,0;b0,1,1,9;t4,9,9;t5,9,9;");
        x.hook(0, 6);
        x.hook(1, 7);
        x.ring(1);
        x.hook(0, 8);
        x.undo();
        due("reach of 0", x.tenant(0, 0), 6);
        due("RINGED", x.bough(1, 3), 0);
        x.take(1, 0);
        due("what can be UNDONE", x.count(7), 4);
        x.undo();
        due("stack", x.tenant(1, 3), 0);
        due("RINGED", x.bough(1, 3), 0);
        x.undo();
        due("not RINGED", x.bough(1, 3), 9);
        due("reach of 1", x.tenant(1, 0), 7);
        x.undo();
        due("reach of 1", x.tenant(1, 0), 5);
        due("reach of 0", x.tenant(0, 0), 6);
        x.undo();
        due("reach of 0", x.tenant(0, 0), 4);
        // What is UNDONE can't be had again.
        due("none", x.undo(), NO);
        due("reach of 0", x.tenant(0, 0), 4);
    }

    private static void theLast8CanBe() {
        sentence("UNDONE: the last 8 can be");
        for (int steps = 0; steps <= 20; steps++) {
            HookOrCrook x = laid("b0,1,1,0;t20,9,9;");
            for (int day = 1; day <= steps; day++) {
                x.pass(1);
            }
            int can = Math.min(steps, 8);
            due("after " + steps, x.count(7), can);
            for (int left = can - 1; left >= 0; left--) {
                due("undo after " + steps, x.undo(), left);
                due("day", x.count(2), steps - can + left);
            }
            due("one more after " + steps, x.undo(), NO);
            due("day", x.count(2), steps - can);
            x.pass(1);
            due("and again", x.count(7), 1);
        }
    }

    private static void suchByWhichNothingBecomesAnother() {
        sentence("UNDONE: such by which nothing becomes another, too");
        HookOrCrook x = laid("b0,1,1,0;t7,9,9;");
        x.pass(1);
        for (int k = 0; k < 7; k++) {
            due("hook(0, 7)", x.hook(0, 7), 7);
        }
        due("what can be UNDONE", x.count(7), 8);
        due("hook(0, 7)", x.hook(0, 7), 7);
        due("what can be UNDONE", x.count(7), 8);
        for (int left = 7; left >= 0; left--) {
            due("undo", x.undo(), left);
        }
        due("the DAY that went by is no more of them", x.count(2), 1);
        // One by which he is CAUGHT with nothing stacked.
        HookOrCrook y = laid("b0,1,1,0;t7,9,9;k1,1;");
        due("CAUGHT", y.take(0, 0), 0);
        due("what can be UNDONE", y.count(7), 1);
    }

    private static void whatIsNoneOfThese() {
        sentence("UNDONE are not: letters, keep, questions");
        HookOrCrook x = laid("b0,1,1,0;t7,9,9;");
        x.hook(0, 9);
        x.keep();
        x.write('f');
        x.warmBy(50);
        x.share(-1);
        x.storm(0, 30, 0);
        due("what can be UNDONE", x.count(7), 1);
        due("undo", x.undo(), 0);
        due("reach", x.tenant(0, 0), 7);
        due("KEPT", x.count(8), 1);
        due("letters", x.count(9), 17);
    }
}

/** What the document promises, promise by promise; each answer is worked out by hand from its words. */
public final class PromisesTest extends Answers {
    public static void main(String[] args) {
        constants();
        aNewObject();
        write();
        wipe();
        fault();
        lay();
        bough();
        tenant();
        can();
        take();
        pass();
        hook();
        ring();
        undo();
        warmBy();
        allWarm();
        share();
        leastHook();
        pole();
        firstDay();
        sticks();
        whose();
        sure();
        waste();
        needs();
        storm();
        keep();
        back();
        count();
        finish("all promises hold");
    }

    private static void constants() {
        due("BAD", HookOrCrook.BAD, -1);
        due("NO", HookOrCrook.NO, -2);
        due("FULL", HookOrCrook.FULL, -3);
        due("NONE", HookOrCrook.NONE, -4);
    }

    private static void aNewObject() {
        sentence("promise 1");
        HookOrCrook x = new HookOrCrook();
        int[] counts = {6, 3, 0, 8, 3, 6, 0, 0, 0, 0};
        for (int k = 0; k < counts.length; k++) {
            due("count(" + k + ")", x.count(k), counts[k]);
        }
        int[][] boughs = {{0, 6, 4, 0}, {0, 9, 7, 2}, {1, 5, 9, 0}, {2, 4, 5, 1}, {3, 15, 3, 4}, {0, 12, 6, 8}};
        for (int b = 0; b < boughs.length; b++) {
            for (int what = 0; what < 4; what++) {
                due("bough(" + b + ", " + what + ")", x.bough(b, what), boughs[b][what]);
            }
            due("gone " + b, x.bough(b, 6), 0);
        }
        int[][] tenants = {{6, 8, 9, 0, 0, 0}, {10, 6, 12, 0, 0, 0}, {7, 9, 6, 0, 0, 0}};
        for (int i = 0; i < tenants.length; i++) {
            for (int what = 0; what < 6; what++) {
                due("tenant(" + i + ", " + what + ")", x.tenant(i, what), tenants[i][what]);
            }
        }
        // One object knows nothing of another.
        new HookOrCrook().take(0, 0);
        due("count(6)", x.count(6), 0);
    }

    private static void write() {
        sentence("promise 2");
        HookOrCrook x = new HookOrCrook();
        due("write(31)", x.write(31), BAD);
        due("write(127)", x.write(127), BAD);
        for (int w : WILD) {
            due("write(" + w + ")", x.write(w), BAD);
        }
        // A number whose low bits are a letter is none.
        due("write(65536 + 98)", x.write(65536 + 98), BAD);
        due("write(32)", x.write(32), 1);
        due("write(126)", x.write(126), 2);
        for (int k = 3; k <= 200; k++) {
            due("write", x.write('b'), k);
        }
        due("write at 200", x.write('b'), FULL);
        due("BAD goes ahead of FULL", x.write(31), BAD);
        due("count(9)", x.count(9), 200);
        due("fault", x.fault(), 0);
    }

    private static void wipe() {
        sentence("promise 3");
        HookOrCrook x = new HookOrCrook();
        due("wipe", x.wipe(), 0);
        put(x, "b0,1,1,0;x");
        due("wipe", x.wipe(), 10);
        due("wipe", x.wipe(), 0);
        due("fault", x.fault(), NONE);
        // The LAID one stays.
        due("count(0)", x.count(0), 6);
        put(x, "b0");
        due("no letter behind the new end counts", x.fault(), 0);
    }

    private static void fault() {
        sentence("promise 4");
        faultOf("", NONE);
        String[] good = {"b0,1,1,0;", "b3,20,20,60;", "b00,01,01,00;", "t1,1,1;", "t20,40,60;", "k1,1;", "k20,9;", "k01,09;",
            "f1;", "f30;", "f09;"};
        for (String text : good) {
            faultOf(text, NONE);
            faultOf(text + "x", text.length());
            faultOf(text + text.substring(0, text.length() - 1), text.length());
        }
        String[] bad = {"b4,1,1,0;", "b0,0,1,0;", "b0,21,1,0;", "b0,1,0,0;", "b0,1,21,0;", "b0,1,1,61;", "b0,1,1;", "b0,1,1,0,0;",
            "b0,1,1,000;", "b0,1,1,;", "b;", "b,1,1,0;", "b0,1,1,0", "b0;1,1,0;", "b0,1,1,0,", "b 0,1,1,0;", "b0,1,1,-1;", "B0,1,1,0;",
            "t0,1,1;", "t21,1,1;", "t1,0,1;", "t1,41,1;", "t1,1,0;", "t1,1,61;", "t1,1;", "t1,1,1,1;", "t1,1,001;",
            "k0,1;", "k21,1;", "k1,0;", "k1,10;", "k1;", "k1,1,1;", "f0;", "f31;", "f;", "f1,1;", "f1", "f",
            ";", "x;", "1;", ",", " ", "b", "t", "k", "~"};
        for (String text : bad) {
            faultOf(text, 0);
            faultOf("t1,1,1;" + text, 7);
        }
        faultOf("f1;f2;f3;k1,1;k2,2;", NONE);
        faultOf("f1;;", 3);
        faultOf("f1;k21,1;f0;", 3);
        String eight = "b0,1,1,0;".repeat(8);
        faultOf(eight, NONE);
        faultOf(eight + "b0,1,1,0;", 72);
        faultOf("t1,1,1;".repeat(4), NONE);
        faultOf("t1,1,1;".repeat(5), 28);
        faultOf("t1,1,1;".repeat(4) + eight + "f1;x", 28 + 72 + 3);
        String long200 = "f1;".repeat(64) + "f30;" + "f30;";
        faultOf(long200, NONE);
    }

    private static void lay() {
        sentence("promise 5");
        HookOrCrook x = new HookOrCrook();
        due("lay of nothing", x.lay(), NO);
        for (String text : new String[] {"b0,1,1,0;", "t1,1,1;", "k1,1;f1;", "b0,1,1,0;t1,1,1;x", "b0,1,1,0;t1,1,1"}) {
            put(x, text);
            x.take(0, 0);
            due("lay of " + text, x.lay(), NO);
            due("nothing changes", x.count(0) * 100 + x.count(6) * 10 + x.count(7), 611);
        }
        x.pass(5);
        x.hook(0, 20);
        x.ring(5);
        x.keep();
        put(x, "f2;b1,20,19,60;t3,40,5;b3,1,2,1;k7,1;k5,9;f3;f30;");
        due("lay", x.lay(), 2);
        int[] counts = {2, 1, 0, 5, 9, 30, 0, 0, 0, 49};
        for (int k = 0; k < counts.length; k++) {
            due("count(" + k + ")", x.count(k), counts[k]);
        }
        due("undo", x.undo(), NO);
        due("back", x.back(), NO);
        due("bough", x.bough(0, 0), 1);
        due("bough", x.bough(0, 1), 20);
        due("bough", x.bough(0, 2), 19);
        due("bough", x.bough(0, 3), 60);
        due("bough", x.bough(1, 3), 1);
        due("bough", x.bough(2, 0), BAD);
        due("reach", x.tenant(0, 0), 3);
        due("stack", x.tenant(0, 3), 0);
        due("carried", x.tenant(0, 4), 0);
        due("tenant", x.tenant(1, 0), BAD);
        due("lay again", x.lay(), 2);
        HookOrCrook y = laid("b0,1,1,0;t1,1,1;");
        due("P without", y.count(3), 20);
        due("Q without", y.count(4), 3);
        due("F without", y.count(5), 10);
        // What was told by a TEXT laid before is forgotten.
        put(x, "b0,1,1,0;t1,1,1;");
        due("lay", x.lay(), 1);
        due("P", x.count(3), 20);
        due("Q", x.count(4), 3);
        due("F", x.count(5), 10);
    }

    private static void bough() {
        sentence("promise 6");
        HookOrCrook x = laid("b2,7,8,3;b0,1,1,0;t1,1,1;f2;");
        int[] first = {2, 7, 8, 3, 0, 0, 0};
        for (int what = 0; what < 7; what++) {
            due("bough(0, " + what + ")", x.bough(0, what), first[what]);
        }
        due("dead at once", x.bough(1, 4), 1);
        due("not fallen", x.bough(1, 5), 0);
        x.pass(1);
        due("not fallen on DAY 1", x.bough(1, 5), 0);
        x.pass(1);
        due("fallen on DAY 2", x.bough(1, 5), 1);
        due("not dead on DAY 2", x.bough(0, 4), 0);
        x.pass(1);
        due("dead on DAY 3", x.bough(0, 4), 1);
        due("not fallen on DAY 3", x.bough(0, 5), 0);
        x.pass(2);
        due("fallen on DAY 5", x.bough(0, 5), 1);
        x.take(0, 1);
        due("gone", x.bough(1, 6), 1);
        due("gone and dead", x.bough(1, 4), 1);
        for (int w : WILD) {
            due("bough(" + w + ", 0)", x.bough(w, 0), BAD);
            due("bough(0, " + w + ")", x.bough(0, w), BAD);
        }
        due("bough(2, 0)", x.bough(2, 0), BAD);
        due("bough(0, 7)", x.bough(0, 7), BAD);
    }

    private static void tenant() {
        sentence("promise 7");
        HookOrCrook x = laid("b3,1,4,0;b3,1,5,0;t11,12,9;t1,1,1;");
        int[] first = {11, 12, 9, 0, 0, 0};
        for (int what = 0; what < 6; what++) {
            due("tenant(0, " + what + ")", x.tenant(0, what), first[what]);
        }
        x.take(0, 0);
        due("stack", x.tenant(0, 3), 4);
        due("carried", x.tenant(0, 4), 4);
        due("not warm", x.tenant(0, 5), 0);
        x.pass(1);
        due("stack", x.tenant(0, 3), 4);
        due("carried", x.tenant(0, 4), 0);
        x.take(0, 1);
        due("stack", x.tenant(0, 3), 9);
        due("carried", x.tenant(0, 4), 5);
        due("warm with just enough", x.tenant(0, 5), 1);
        due("the other is not", x.tenant(1, 5), 0);
        x.hook(0, 2);
        due("reach", x.tenant(0, 0), 2);
        for (int w : WILD) {
            due("tenant(" + w + ", 0)", x.tenant(w, 0), BAD);
            due("tenant(0, " + w + ")", x.tenant(0, w), BAD);
        }
        due("tenant(2, 0)", x.tenant(2, 0), BAD);
        due("tenant(0, 6)", x.tenant(0, 6), BAD);
    }

    private static void can() {
        sentence("promise 8");
        // ASH as high as he reaches, one higher; OAK; HIDDEN 3 below, 2 below; DRIFT; not DEAD.
        HookOrCrook x = laid("b0,7,1,0;b0,8,1,0;b1,1,1,0;b2,4,1,0;b2,5,1,0;b3,20,1,0;b0,1,1,1;b3,1,6,0;t7,5,9;f3;");
        int[] day0 = {1, 0, 0, 1, 0, 1, 0, 0};
        int[] day1 = {1, 0, 0, 1, 0, 1, 1, 0};
        int[] day3 = {1, 1, 1, 1, 1, 1, 1, 0};
        cans(x, day0);
        x.pass(1);
        cans(x, day1);
        x.pass(2);
        cans(x, day3);
        due("take", x.take(0, 0), 1);
        due("gone", x.can(0, 0), 0);
        HookOrCrook y = laid("b3,1,3,0;b3,1,2,0;b3,1,3,0;t1,5,9;");
        y.take(0, 0);
        due("just as much as he can carry", y.can(0, 1), 1);
        due("more", y.can(0, 2), 0);
        y.pass(1);
        due("the next DAY", y.can(0, 2), 1);
        due("no DRIFT one that is not DEAD", laid("b3,1,1,1;t9,9,9;").can(0, 0), 0);
        for (int w : WILD) {
            due("can(" + w + ", 0)", x.can(w, 0), BAD);
            due("can(0, " + w + ")", x.can(0, w), BAD);
        }
        due("can(1, 0)", x.can(1, 0), BAD);
        due("can(0, 8)", x.can(0, 8), BAD);
    }

    private static void cans(HookOrCrook x, int[] want) {
        for (int b = 0; b < want.length; b++) {
            due("on DAY " + x.count(2) + " can(0, " + b + ")", x.can(0, b), want[b]);
        }
    }

    private static void take() {
        sentence("promise 9");
        HookOrCrook x = laid("b0,5,2,0;b3,5,3,0;b2,5,4,0;b0,5,5,0;b0,5,6,2;b0,5,7,4;t9,20,60;t8,20,60;k8,2;f2;");
        due("CAUGHT", x.take(0, 0), 0);
        due("gone all the same", x.bough(0, 6), 1);
        due("carried all the same", x.tenant(0, 4), 2);
        due("no DRIFT one", x.take(0, 1), 3);
        due("CAUGHT, and all is lost", x.take(0, 2), 0);
        due("carried", x.tenant(0, 4), 9);
        due("no longer than P", x.take(1, 3), 5);
        due("gone", x.take(1, 3), NO);
        due("not DEAD", x.take(1, 4), NO);
        due("nothing changes", x.count(7), 4);
        x.pass(3);
        due("no KEEPERS on DAY 3", x.take(0, 4), 6);
        x.pass(3);
        due("KEEPERS on DAY 6, but FALLEN", x.take(0, 5), 13);
        due("count(6)", x.count(6), 6);
        for (int w : WILD) {
            due("take(" + w + ", 0)", x.take(w, 0), BAD);
            due("take(0, " + w + ")", x.take(0, w), BAD);
        }
        due("take(2, 0)", x.take(2, 0), BAD);
        due("take(0, 6)", x.take(0, 6), BAD);
        HookOrCrook y = laid("b3,1,2,0;b3,1,2,0;t1,40,1;");
        due("take", y.take(0, 0), 2);
        due("who is WARM can TAKE", y.take(0, 1), 4);
        // KEEPERS walk on every DAY if Q is 1.
        HookOrCrook z = laid("b0,1,1,0;t2,9,9;k1,1;");
        z.pass(5);
        due("CAUGHT", z.take(0, 0), 0);
    }

    private static void pass() {
        sentence("promise 10");
        HookOrCrook x = new HookOrCrook();
        x.take(0, 0);
        due("pass(1)", x.pass(1), 1);
        due("all can carry again", x.tenant(0, 4), 0);
        due("stacks stay", x.tenant(0, 3), 4);
        due("pass(30)", x.pass(30), 31);
        due("pass(0)", x.pass(0), BAD);
        due("pass(31)", x.pass(31), BAD);
        for (int w : WILD) {
            due("pass(" + w + ")", x.pass(w), BAD);
        }
        x.pass(30);
        x.pass(30);
        due("pass(9)", x.pass(9), NO);
        due("nothing changes", x.count(2) * 10 + x.count(7), 915);
        due("BAD goes ahead of NO", x.pass(31), BAD);
        due("pass(8)", x.pass(8), 99);
        due("pass(1)", x.pass(1), NO);
    }

    private static void hook() {
        sentence("promise 11");
        HookOrCrook x = new HookOrCrook();
        due("hook(0, 20)", x.hook(0, 20), 6);
        due("hook(0, 1)", x.hook(0, 1), 20);
        due("hook(0, 1)", x.hook(0, 1), 1);
        due("reach", x.tenant(0, 0), 1);
        due("another's", x.tenant(1, 0), 10);
        due("can", x.can(0, 0), 0);
        due("each can be UNDONE", x.count(7), 3);
        due("hook(0, 0)", x.hook(0, 0), BAD);
        due("hook(0, 21)", x.hook(0, 21), BAD);
        due("hook(3, 5)", x.hook(3, 5), BAD);
        for (int w : WILD) {
            due("hook(" + w + ", 5)", x.hook(w, 5), BAD);
            due("hook(0, " + w + ")", x.hook(0, w), BAD);
        }
        due("nothing changes", x.count(7), 3);
    }

    private static void ring() {
        sentence("promise 12");
        HookOrCrook x = laid("b1,9,3,60;b0,1,1,0;b0,1,1,4;t1,9,9;f3;");
        due("DEAD", x.ring(1), NO);
        x.pass(2);
        due("ring(0)", x.ring(0), 60);
        due("from today on", x.bough(0, 3), 2);
        due("DEAD", x.bough(0, 4), 1);
        due("DEAD now", x.ring(0), NO);
        due("not FALLEN", x.can(0, 0), 0);
        x.pass(2);
        due("DEAD of itself", x.ring(2), NO);
        due("not FALLEN", x.bough(0, 5), 0);
        x.pass(1);
        due("FALLEN 3 DAYS later", x.can(0, 0), 1);
        x.take(0, 0);
        due("gone", x.ring(0), NO);
        for (int w : WILD) {
            due("ring(" + w + ")", x.ring(w), BAD);
        }
        due("ring(3)", x.ring(3), BAD);
    }

    private static void undo() {
        sentence("promise 13");
        HookOrCrook x = new HookOrCrook();
        due("nothing is UNDONE", x.undo(), NO);
        x.take(0, 0);
        x.pass(2);
        x.hook(0, 9);
        x.ring(5);
        due("undo of ring", x.undo(), 3);
        due("DEAD from", x.bough(5, 3), 8);
        due("undo of hook", x.undo(), 2);
        due("reach", x.tenant(0, 0), 6);
        due("undo of pass, all DAYS at once", x.undo(), 1);
        due("day", x.count(2), 0);
        due("carried", x.tenant(0, 4), 4);
        due("undo of take", x.undo(), 0);
        due("gone", x.bough(0, 6), 0);
        due("stack", x.tenant(0, 3), 0);
        due("carried", x.tenant(0, 4), 0);
        due("undo", x.undo(), NO);
        // What one is CAUGHT by gives the STACK back, too.
        HookOrCrook y = laid("b3,1,4,0;b0,1,1,0;t2,9,9;k1,1;");
        y.take(0, 0);
        due("CAUGHT", y.take(0, 1), 0);
        due("undo", y.undo(), 1);
        due("stack", y.tenant(0, 3), 4);
        for (int n = 1; n <= 20; n++) {
            x.hook(0, n);
            due("count(7)", x.count(7), Math.min(n, 8));
        }
        for (int left = 7; left >= 0; left--) {
            due("undo", x.undo(), left);
            due("reach", x.tenant(0, 0), 12 + left);
        }
        due("only the last 8", x.undo(), NO);
        due("calls that are refused can't be UNDONE", x.hook(0, 0) + x.pass(0) + x.take(0, 5) + x.ring(0), BAD + BAD + NO + NO);
        due("count(7)", x.count(7), 0);
    }

    private static void warmBy() {
        sentence("promise 14");
        HookOrCrook x = new HookOrCrook();
        int[] want = {0, 0, 0, 0, 0, 0, 4, 4, 5, 5, 5};
        for (int d = 0; d < want.length; d++) {
            due("warmBy(" + d + ")", x.warmBy(d), want[d]);
        }
        due("warmBy(99)", x.warmBy(99), 5);
        due("warmBy(100)", x.warmBy(100), BAD);
        for (int w : WILD) {
            due("warmBy(" + w + ")", x.warmBy(w), BAD);
        }
        x.pass(9);
        due("a DAY that is over", x.warmBy(8), BAD);
        due("nothing changes", x.count(2) * 10 + x.count(6), 90);
        // The lowest number goes first, not the lowest bough, and what can't be carried is passed over.
        HookOrCrook y = laid("b0,9,5,0;b0,1,6,0;b0,8,4,0;t9,9,9;");
        due("0 and 2 on DAY 0", y.warmBy(0), 1);
        // What is carried today is carried.
        HookOrCrook z = laid("b3,1,3,0;b3,1,3,0;b3,1,3,0;t1,8,9;");
        z.take(0, 0);
        z.take(0, 1);
        due("no more today", z.warmBy(0), 0);
        due("tomorrow", z.warmBy(1), 1);
        // Who is WARM takes no more: the second one has what is left. One has all he can ahead of the other.
        HookOrCrook u = laid("b3,1,2,0;b3,1,2,0;b3,1,2,0;t1,40,3;t1,40,2;");
        due("both", u.warmBy(0), 3);
        HookOrCrook v = laid("b3,1,2,0;b3,1,2,0;b3,1,2,0;t1,40,6;t1,40,2;");
        due("the first alone", v.warmBy(99), 1);
        // As if no KEEPERS walked.
        due("no KEEPERS", laid("b0,1,2,0;t20,40,2;k1,1;").warmBy(0), 1);
    }

    private static void allWarm() {
        sentence("promise 15");
        due("allWarm", new HookOrCrook().allWarm(), NONE);
        HookOrCrook x = laid("b3,1,2,5;b1,1,2,60;t1,2,2;t1,2,2;f30;");
        due("on DAY 90", x.allWarm(), 90);
        due("warm by 89", x.warmBy(89), 1);
        x.pass(30);
        x.pass(10);
        x.ring(1);
        due("on DAY 70", x.allWarm(), 70);
        x.pass(30);
        due("today", x.allWarm(), 70);
        x.take(0, 0);
        x.take(1, 1);
        x.pass(5);
        due("now", x.allWarm(), 75);
        x.pass(24);
        due("on DAY 99", x.allWarm(), 99);
        HookOrCrook y = laid("b1,1,2,60;t1,1,2;");
        due("too heavy", y.allWarm(), NONE);
        // DAY 99 counts.
        HookOrCrook z = laid("b1,1,2,60;b1,1,2,60;t1,2,4;f30;");
        for (int k = 0; k < 3; k++) {
            z.pass(30);
        }
        z.pass(8);
        due("one on each of DAYS 98 and 99", z.allWarm(), 99);
        z.pass(1);
        due("too late", z.allWarm(), NONE);
    }

    private static void share() {
        sentence("promise 16");
        HookOrCrook x = new HookOrCrook();
        due("share(-1)", x.share(-1), 4);
        due("share(0)", x.share(0), 0);
        due("share(1)", x.share(1), NONE);
        due("share(6)", x.share(6), BAD);
        due("share(-2)", x.share(-2), BAD);
        due("share wild", x.share(Integer.MAX_VALUE), BAD);
        due("share wild", x.share(Integer.MIN_VALUE), BAD);
        // 6 and 4 fill 10, 5 and 4 fill 9: each has to go to the right back, 3 stays.
        shares("b3,1,5,0;b3,1,6,0;b3,1,4,0;b3,1,4,0;b3,1,3,0;t1,10,1;t1,9,1;", 19, 1, 0, 0, 1, NONE);
        // All as good: the lowest ones first.
        shares("b3,1,2,0;b3,1,2,0;b3,1,2,0;t1,2,1;t1,2,1;", 4, 0, 1, NONE);
        // Nobody has BOUGH 0 only if less would be had else.
        shares("b3,1,3,0;b3,1,4,0;t1,5,1;", 4, NONE, 0);
        // The long hook is left to the high one.
        shares("b0,2,5,0;b0,9,5,0;t9,5,1;t2,5,1;", 10, 1, 0);
        // KEEPERS do not matter, nor who is WARM.
        shares("b0,2,5,0;b0,2,5,0;t9,40,1;k1,1;", 10, 0, 0);
        HookOrCrook y = laid("b3,1,5,0;b3,1,3,0;b3,1,4,0;b3,1,2,1;t1,9,5;t1,3,9;");
        y.take(0, 0);
        due("what is carried is carried", y.share(-1), 7);
        due("gone", y.share(0), NONE);
        due("share(1)", y.share(1), 1);
        due("share(2)", y.share(2), 0);
        due("not DEAD", y.share(3), NONE);
        y.pass(1);
        due("tomorrow", y.share(-1), 9);
        due("nothing changes", y.count(6), 1);
        y.take(0, 2);
        y.take(1, 1);
        y.take(0, 3);
        due("nothing is left", y.share(-1), 0);
        due("whose it would have been ahead does not matter", y.share(2), NONE);
        due("none", laid("b1,1,5,0;t20,40,5;").share(-1), 0);
    }

    private static void shares(String text, int most, int... owners) {
        HookOrCrook x = laid(text);
        due("share(-1) of " + text, x.share(-1), most);
        for (int b = 0; b < owners.length; b++) {
            due("share(" + b + ") of " + text, x.share(b), owners[b]);
        }
    }

    private static void leastHook() {
        sentence("promise 17");
        // All have FALLEN on DAY 30: 0 has one then, the others are left.
        HookOrCrook x = laid("b0,7,5,0;b0,12,5,0;b2,17,5,0;t3,5,5;t1,20,10;f30;");
        due("0", x.leastHook(0), 1);
        due("1", x.leastHook(1), 1);
        // 0 has the lower one on DAY 0 and the other on DAY 30, if 1 has not had it by then.
        HookOrCrook y = laid("b0,7,5,0;b0,12,5,0;t7,40,10;t1,20,5;f30;");
        due("ahead of the one with the lower number", y.leastHook(1), 12);
        due("0", y.leastHook(0), 1);
        due("reach is as it was", y.tenant(1, 0), 1);
        due("HIDDEN: H and 3", laid("b2,17,5,0;t1,40,5;t1,40,5;f30;").leastHook(1), 20);
        due("none", laid("b2,18,5,0;t1,40,5;t1,40,5;f30;").leastHook(1), NONE);
        due("who is WARM already", warmed().leastHook(0), 1);
        due("P does not matter", laid("b0,9,5,0;t1,40,5;t1,40,5;k1,1;").leastHook(1), 9);
        // A longer hook can be worse: by 10 he has the light one first, can't carry the other, and 1 has it.
        HookOrCrook z = laid("b0,10,2,0;b0,5,5,0;t1,5,5;t5,5,5;f30;");
        due("long enough", z.leastHook(0), 5);
        z.hook(0, 10);
        due("too long", z.warmBy(99), 2);
        HookOrCrook u = laid("b3,1,2,60;b3,1,2,60;t1,2,4;f30;");
        for (int k = 0; k < 49; k++) {
            u.pass(2);
        }
        due("on DAYS 98 and 99", u.leastHook(0), 1);
        u.pass(1);
        due("on DAY 99 one is not enough", u.leastHook(0), NONE);
        for (int n : WILD) {
            due("leastHook(" + n + ")", y.leastHook(n), BAD);
        }
        due("leastHook(2)", y.leastHook(2), BAD);
    }

    private static HookOrCrook warmed() {
        HookOrCrook x = laid("b3,1,2,0;t9,2,2;");
        x.take(0, 0);
        return x;
    }

    private static void pole() {
        sentence("promise 18");
        due("none", new HookOrCrook().pole(), NONE);
        due("all are WARM now", warmed().pole(), 1);
        due("once FALLEN", laid("b0,12,5,0;b0,7,5,0;t7,40,3;t15,20,5;f30;").pole(), 1);
        // By 1 and 2, 0 has 6 and 5 on DAY 30; by 3 he has 1 on DAY 0, then 6 is enough, and 5 is left.
        HookOrCrook x = laid("b0,12,6,0;b0,7,5,0;b0,3,1,0;t20,40,7;t20,40,5;f30;");
        due("by 3", x.pole(), 3);
        due("reach is as it was", x.tenant(0, 0) + x.tenant(1, 0), 40);
        due("P is as it was", x.count(3), 20);
        // P of the TEXT does not matter.
        due("by 3", laid("b0,12,6,0;b0,7,5,0;b0,3,1,0;t20,40,7;t20,40,5;f30;k1,1;").pole(), 3);
        // No hook becomes longer by it: 0 has none that is 3 long.
        due("none", laid("b0,12,6,0;b0,7,5,0;b0,3,1,0;t2,40,7;t2,40,5;f30;").pole(), NONE);
        // 20 at most: HIDDEN, 17 high, is had on DAY 0 so that the other is left on DAY 30.
        due("by 20", laid("b1,1,6,0;b1,1,5,0;b2,17,1,0;t20,40,7;t1,40,5;f30;").pole(), 20);
        for (int p = 1; p <= 20; p++) {
            // The least P is the first one by which the same forest, laid with hooks cut to it, makes all WARM.
            String text = "b1,1,6,0;b1,1,5,0;b0," + p + ",1,0;t20,40,7;t20,40,5;f30;";
            due("pole of " + text, laid(text).pole(), p);
        }
    }

    private static void firstDay() {
        sentence("promise 19");
        HookOrCrook x = laid("b0,5,2,7;b0,6,2,7;b1,1,2,7;b2,2,2,7;b2,3,2,7;b3,20,2,7;b3,1,5,0;t5,4,9;f20;");
        int[] want = {7, 27, 27, 7, 27, 7, NONE};
        for (int b = 0; b < want.length; b++) {
            due("firstDay(0, " + b + ")", x.firstDay(0, b), want[b]);
        }
        x.pass(10);
        due("today", x.firstDay(0, 0), 10);
        due("later", x.firstDay(0, 1), 27);
        x.take(0, 5);
        x.take(0, 3);
        due("having carried nothing", x.firstDay(0, 0), 10);
        due("gone", x.firstDay(0, 3), NONE);
        for (int w : WILD) {
            due("firstDay(" + w + ", 0)", x.firstDay(w, 0), BAD);
            due("firstDay(0, " + w + ")", x.firstDay(0, w), BAD);
        }
        due("firstDay(1, 0)", x.firstDay(1, 0), BAD);
        due("firstDay(0, 7)", x.firstDay(0, 7), BAD);
        HookOrCrook y = laid("b1,1,2,60;b1,1,2,60;t1,4,9;f30;");
        for (int k = 0; k < 58; k++) {
            y.pass(1);
        }
        due("ring", y.ring(0), 60);
        due("88", y.firstDay(0, 0), 88);
        due("90", y.firstDay(0, 1), 90);
        y.pass(30);
        y.pass(11);
        due("today, the last one", y.firstDay(0, 0), 99);
    }

    private static void sticks() {
        sentence("promise 20");
        HookOrCrook x = laid("b3,1,2,0;b3,1,3,0;b3,1,5,0;b3,1,20,0;b3,1,5,0;b3,1,7,0;b3,1,20,0;b3,1,20,0;t1,40,60;t1,40,60;");
        due("sticks(0, 0)", x.sticks(0, 0), 1);
        due("sticks(0, 1)", x.sticks(0, 1), 0);
        due("none is gone", x.sticks(5, 0), 0);
        due("none is gone", x.sticks(5, 1), NONE);
        for (int b : new int[] {0, 1, 2, 4}) {
            x.take(0, b);
        }
        // {0,1}, {2}, {4}
        due("sticks(5, 0)", x.sticks(5, 0), 3);
        due("sticks(5, 1)", x.sticks(5, 1), 3);
        // {0,2}, {0,4}
        due("sticks(7, 0)", x.sticks(7, 0), 2);
        due("sticks(7, 1)", x.sticks(7, 1), 5);
        due("all", x.sticks(15, 0), 1);
        due("all", x.sticks(15, 1), 0b10111);
        due("more", x.sticks(16, 0), 0);
        due("more", x.sticks(99, 1), NONE);
        x.take(1, 5);
        x.take(1, 3);
        // BOUGH 5 alone now, too.
        due("sticks(7, 0)", x.sticks(7, 0), 3);
        due("sticks(7, 1)", x.sticks(7, 1), 5);
        due("sticks(100, 0)", x.sticks(100, 0), BAD);
        due("sticks(0, 2)", x.sticks(0, 2), BAD);
        for (int w : WILD) {
            due("sticks(" + w + ", 0)", x.sticks(w, 0), BAD);
            due("sticks(0, " + w + ")", x.sticks(0, w), BAD);
        }
    }

    private static void whose() {
        sentence("promise 21");
        HookOrCrook x = laid("b0,5,6,3;b1,5,6,3;b2,5,6,3;b3,5,6,3;t5,6,9;t8,9,9;t20,5,9;f4;");
        int[] day2 = {0, 0, 0, 0};
        int[] day3 = {3, 0, 2, 3};
        int[] day7 = {3, 3, 3, 3};
        for (int b = 0; b < 4; b++) {
            due("on DAY 2", x.whose(b, 2), day2[b]);
            due("on DAY 3", x.whose(b, 3), day3[b]);
            due("on DAY 6", x.whose(b, 6), day3[b]);
            due("on DAY 7", x.whose(b, 7), day7[b]);
            due("on DAY 99", x.whose(b, 99), day7[b]);
        }
        x.hook(0, 4);
        due("as REACHES are now", x.whose(0, 3), 2);
        x.pass(9);
        x.take(1, 0);
        due("gone, carried, over", x.whose(0, 3), 2);
        due("whose(0, 100)", x.whose(0, 100), BAD);
        due("whose(4, 0)", x.whose(4, 0), BAD);
        for (int w : WILD) {
            due("whose(" + w + ", 0)", x.whose(w, 0), BAD);
            due("whose(0, " + w + ")", x.whose(0, w), BAD);
        }
        HookOrCrook y = laid("b0,1,1,9;t5,6,9;");
        y.pass(2);
        y.ring(0);
        due("RINGED", y.whose(0, 1), 0);
        due("RINGED", y.whose(0, 2), 1);
        due("on DAY 0", laid("b0,1,1,0;t5,6,9;").whose(0, 0), 1);
    }

    private static void sure() {
        sentence("promise 22");
        HookOrCrook x = laid("b0,1,1,0;t9,9,9;t8,9,9;k8,3;");
        int[][] rows = {{0, 0, 1, 1}, {0, 10, 1, 1}, {1, 0, 1, 1}, {1, 10, 0, 1}, {8, 10, 0, 1}, {1, 5, 1, 2}, {2, 5, 1, 4},
            {8, 1, 43046721, 100000000}, {8, 9, 1, 100000000}, {3, 4, 27, 125}, {2, 8, 1, 25}, {8, 2, 65536, 390625}, {1, 3, 7, 10}};
        for (int[] row : rows) {
            due("sure above " + row[0] + ", " + row[1], x.sure(0, row[0], row[1], 0), row[2]);
            due("sure below " + row[0] + ", " + row[1], x.sure(0, row[0], row[1], 1), row[3]);
            due("sure of no more than P", x.sure(1, row[0], row[1], 0), 1);
            due("sure of no more than P", x.sure(1, row[0], row[1], 1), 1);
        }
        x.hook(1, 9);
        due("a longer hook", x.sure(1, 1, 5, 1), 2);
        due("sure(2, 0, 0, 0)", x.sure(2, 0, 0, 0), BAD);
        due("sure(0, 9, 0, 0)", x.sure(0, 9, 0, 0), BAD);
        due("sure(0, 0, 11, 0)", x.sure(0, 0, 11, 0), BAD);
        due("sure(0, 0, 0, 2)", x.sure(0, 0, 0, 2), BAD);
        for (int w : WILD) {
            due("sure wild", x.sure(w, 0, 0, 0), BAD);
            due("sure wild", x.sure(0, w, 0, 0), BAD);
            due("sure wild", x.sure(0, 0, w, 0), BAD);
            due("sure wild", x.sure(0, 0, 0, w), BAD);
        }
    }

    private static void waste() {
        sentence("promise 23");
        HookOrCrook x = laid("b0,20,9,60;b3,1,10,0;b1,1,20,5;b0,1,3,0;t1,9,9;t1,5,9;f30;");
        due("too heavy for all", x.waste(), 30);
        x.take(0, 3);
        due("carried today does not matter", x.waste(), 30);
        HookOrCrook y = laid("b3,1,10,0;t1,10,9;t1,5,9;");
        due("one who can is enough", y.waste(), 0);
        HookOrCrook z = laid("b3,1,10,0;b0,20,2,60;t1,9,9;f30;");
        due("BOUGH 0 counts", z.waste(), 10);
        for (int k = 0; k < 33; k++) {
            z.pass(3);
        }
        due("what can be had on the last DAY is none", z.waste(), 10);
        due("gone", wasteBehind(y), 0);
    }

    private static int wasteBehind(HookOrCrook y) {
        y.take(0, 0);
        return y.waste();
    }

    private static void needs() {
        sentence("promise 24");
        HookOrCrook x = laid("b3,1,4,0;b3,1,7,0;t1,40,9;t1,40,5;");
        due("needs", x.needs(), 14);
        x.take(0, 0);
        due("needs", x.needs(), 10);
        x.take(1, 1);
        due("more than enough is none for another", x.needs(), 5);
        due("60 each", laid("b0,1,1,0;t1,1,60;t1,1,60;t1,1,60;t1,1,60;").needs(), 240);
    }

    private static void storm() {
        sentence("promise 25");
        // DRAWS by 0: 0, 20743, 5149, 18739; by 8, cut: 0, 2592, 643, 2342: DAYS 0 and 1 fell one.
        HookOrCrook x = laid("b1,1,5,60;b1,1,7,60;t1,10,12;f30;");
        due("one falls", x.storm(0, 1, 1), 5);
        due("none is WARM", x.storm(0, 1, 0), 0);
        due("20743 by 2 leaves 1", x.storm(0, 2, 1), 12);
        due("WARM", x.storm(0, 2, 0), 1);
        // DRAWS by 1, 2, 3: 11401 (1425), 29766 (3720), 22335 (2791).
        due("11401 by 2 leaves 1", x.storm(1, 1, 1), 7);
        due("29766 by 2 leaves 0", x.storm(2, 1, 1), 5);
        due("2791 is not parted by 3", x.storm(3, 1, 1), 0);
        due("30 DAYS", x.storm(0, 30, 0), 1);
        // By 5 the first four DRAWS strike none: 28364, 23634, 15328, 3446 (3545, 2954, 1916, 430).
        HookOrCrook d = laid("b3,1,2,2;t1,9,9;");
        due("not DEAD on DAYS 0 and 1", d.storm(5, 2, 1), 0);
        due("what dies meanwhile is had", d.storm(5, 3, 1), 2);
        due("nothing changes", x.count(6) + x.count(2) + x.count(7) + x.bough(0, 4), 0);
        x.pass(30);
        x.pass(30);
        // Every one is DEAD from DAY 60 on and FALLEN from DAY 90 on.
        due("on DAY 60 by 3", x.storm(3, 1, 1), 0);
        x.pass(30);
        due("on DAY 90 by 3", x.storm(3, 1, 1), 5);
        due("from DAY 90, 10 DAYS", x.storm(3, 10, 0), 1);
        due("from DAY 90, 11 DAYS", x.storm(3, 11, 0), NO);
        due("from DAY 90, 31 DAYS", x.storm(3, 31, 0), BAD);
        // From then on, not on that DAY alone; what is carried is carried.
        HookOrCrook y = laid("b1,1,5,60;b1,1,7,60;b3,1,6,0;t1,10,60;f30;");
        y.take(0, 2);
        due("6 and 5 are too much", y.storm(0, 1, 1), 0);
        due("5 and 7 are too much", y.storm(0, 2, 1), 5);
        due("7 lies there on DAY 2", y.storm(0, 3, 1), 12);
        // What is DEAD is struck, too; what is gone is drawn in vain.
        HookOrCrook z = laid("b1,1,5,0;b1,1,7,60;t1,40,60;f3;");
        due("DEAD, and FALLEN now", z.storm(0, 1, 1), 5);
        z.pass(3);
        z.take(0, 0);
        due("gone", z.storm(0, 1, 1), 0);
        due("the other", z.storm(0, 2, 1), 7);
        // By 9996 x is 79158325, its square beyond an int: DRAW 15072 (1884); by 9999 it is 25651 (3206).
        HookOrCrook u = laid("b1,1,5,60;b1,1,7,60;t1,10,12;f30;");
        due("by 9996", u.storm(9996, 1, 1), 5);
        due("by 9999", u.storm(9999, 1, 1), 0);
        due("storm(10000, 1, 0)", x.storm(10000, 1, 0), BAD);
        due("storm(0, 0, 0)", x.storm(0, 0, 0), BAD);
        due("storm(0, 1, 2)", x.storm(0, 1, 2), BAD);
        for (int w : WILD) {
            due("storm wild", x.storm(w == 1000 ? 20000 : w, 1, 0), BAD);
            due("storm wild", x.storm(0, w, 0), BAD);
            due("storm wild", x.storm(0, 1, w), BAD);
        }
    }

    private static void keep() {
        sentence("promise 26");
        HookOrCrook x = new HookOrCrook();
        due("keep", x.keep(), 1);
        due("keep", x.keep(), 2);
        due("keep", x.keep(), FULL);
        due("count(8)", x.count(8), 2);
        due("what can be UNDONE stays", x.count(7), 0);
        x.hook(0, 3);
        x.back();
        x.hook(0, 3);
        x.keep();
        due("what can be UNDONE stays", x.count(7), 1);
        due("keep itself can't be UNDONE", x.undo(), 0);
        due("reach", x.tenant(0, 0), 6);
        due("KEPT stay", x.count(8), 2);
    }

    private static void back() {
        sentence("promise 27");
        HookOrCrook x = new HookOrCrook();
        due("back", x.back(), NO);
        x.take(0, 0);
        x.keep();
        x.pass(1);
        x.hook(1, 17);
        x.ring(5);
        x.take(1, 3);
        x.keep();
        x.pass(20);
        x.take(0, 1);
        due("back", x.back(), 1);
        due("day", x.count(2), 1);
        due("gone", x.count(6), 2);
        due("reach", x.tenant(1, 0), 17);
        due("RINGED", x.bough(5, 3), 1);
        due("stack", x.tenant(1, 3), 5);
        due("carried", x.tenant(1, 4), 5);
        due("nothing is UNDONE", x.undo(), NO);
        x.pass(1);
        due("back", x.back(), 0);
        due("day", x.count(2), 0);
        due("reach", x.tenant(1, 0), 10);
        due("DEAD from", x.bough(5, 3), 8);
        due("carried", x.tenant(0, 4), 4);
        due("count(7)", x.count(7), 0);
        due("back", x.back(), NO);
        x.pass(1);
        due("a refused one leaves what can be UNDONE", x.back() == NO ? x.count(7) : -100, 1);
    }

    private static void count() {
        sentence("promise 28");
        HookOrCrook x = laid("b0,1,1,0;b3,1,1,0;b3,1,1,0;t1,9,9;t1,9,9;k19,8;f7;");
        x.pass(4);
        x.take(0, 0);
        x.take(1, 2);
        x.keep();
        int[] want = {3, 2, 4, 19, 8, 7, 2, 3, 1, 50};
        for (int what = 0; what < want.length; what++) {
            due("count(" + what + ")", x.count(what), want[what]);
        }
        due("count(10)", x.count(10), BAD);
        for (int w : WILD) {
            due("count(" + w + ")", x.count(w), BAD);
        }
    }
}

import java.lang.reflect.InvocationTargetException;
import java.lang.reflect.Method;
import java.util.ArrayList;
import java.util.Arrays;
import java.util.List;
import java.util.function.Supplier;
import java.util.function.ToIntFunction;

/**
 * Calls that are refused: with what, which of BAD, NO, NONE and FULL comes first, and that nothing changes then. Two
 * objects with the same past stand side by side; one alone gets the call, and all that can be seen of them is compared,
 * down to the last that can be UNDONE, what is KEPT and THE TEXT.
 */
public final class RefusedCallsTest extends Answers {
    private static final String FOREST = "b0,5,4,0;b0,9,7,20;b3,1,2,0;b1,5,6,1;t6,8,9;t10,6,12;k8,3;f6;";
    private static final int[] FAR = {Integer.MIN_VALUE, Integer.MIN_VALUE + 1, -100000, -5, -4, -3, -2, 10000, 32768, 65536,
        65536 + 98, 1 << 24, 1 << 30, Integer.MAX_VALUE - 99, Integer.MAX_VALUE};

    public static void main(String[] args) throws ReflectiveOperationException {
        ofANewOne();
        midway();
        onTheLastDay();
        withAFullText();
        badAheadOfTheOthers();
        questionsChangeNothing();
        numbersFarAway();
        finish("all refused calls change nothing");
    }

    /** DAY 3 of the forest: 0 and 2 gone, 1 RINGED, a hook longer, a STACK lost, two KEPT, more than 8 steps, a TEXT with a FAULT. */
    private static HookOrCrook inTheMidst() {
        HookOrCrook x = laid(FOREST);
        x.take(0, 0);
        x.hook(1, 9);
        x.hook(1, 11);
        x.pass(1);
        x.keep();
        x.take(0, 2);
        x.hook(0, 9);
        x.hook(0, 9);
        x.pass(2);
        x.keep();
        x.ring(1);
        x.hook(0, 8);
        x.write('x');
        due("KEPT", x.count(8), 2);
        due("what can be UNDONE", x.count(7), 8);
        return x;
    }

    private static HookOrCrook atTheEnd() {
        HookOrCrook x = laid(FOREST);
        x.take(0, 0);
        x.keep();
        passTo(x, 99);
        x.take(1, 2);
        return x;
    }

    /** 200 letters without FAULT. */
    private static HookOrCrook filled() {
        HookOrCrook x = laid("b3,1,1,0;t1,1,1;" + "f1;".repeat(60) + "f30;");
        x.hook(0, 2);
        return x;
    }

    /** All that tells a state: DAY, gone, from when DEAD, STACKS, REACHES, carried. */
    private static void see(HookOrCrook x, List<Integer> seen) {
        int boughs = x.count(0);
        int tenants = x.count(1);
        seen.add(x.count(2));
        for (int b = 0; b < boughs; b++) {
            seen.add(x.bough(b, 3));
            seen.add(x.bough(b, 6));
        }
        for (int i = 0; i < tenants; i++) {
            seen.add(x.tenant(i, 0));
            seen.add(x.tenant(i, 3));
            seen.add(x.tenant(i, 4));
        }
    }

    /** All that can be seen, and what lies below it; the object is used up by it. */
    private static List<Integer> seeAll(HookOrCrook x) {
        List<Integer> seen = new ArrayList<>();
        for (int what = 0; what <= 9; what++) {
            seen.add(x.count(what));
        }
        seen.add(x.fault());
        see(x, seen);
        int left = x.count(7);
        while (left > 0) {
            left = x.undo();
            seen.add(left);
            see(x, seen);
        }
        left = x.count(8);
        while (left > 0) {
            left = x.back();
            seen.add(left);
            see(x, seen);
        }
        seen.add(x.lay());
        see(x, seen);
        return seen;
    }

    private static void refused(Supplier<HookOrCrook> past, String call, int want, ToIntFunction<HookOrCrook> made) {
        HookOrCrook x = past.get();
        due(call, made.applyAsInt(x), want);
        due(call + " again", made.applyAsInt(x), want);
        List<Integer> seen = seeAll(x);
        List<Integer> without = seeAll(past.get());
        holds(call + " changes nothing: " + without + " became " + seen, seen.equals(without));
    }

    private static void ofANewOne() {
        sentence("refused of a new one");
        Supplier<HookOrCrook> past = HookOrCrook::new;
        refused(past, "lay()", NO, HookOrCrook::lay);
        refused(past, "undo()", NO, HookOrCrook::undo);
        refused(past, "back()", NO, HookOrCrook::back);
        refused(past, "fault()", NONE, HookOrCrook::fault);
        refused(past, "wipe()", 0, HookOrCrook::wipe);
        refused(past, "write(31)", BAD, x -> x.write(31));
        refused(past, "write(127)", BAD, x -> x.write(127));
        refused(past, "take(0, 5)", NO, x -> x.take(0, 5));
        refused(past, "ring(0)", NO, x -> x.ring(0));
        refused(past, "bough(6, 0)", BAD, x -> x.bough(6, 0));
        refused(past, "tenant(3, 0)", BAD, x -> x.tenant(3, 0));
    }

    private static void midway() {
        sentence("refused on DAY 3");
        Supplier<HookOrCrook> past = RefusedCallsTest::inTheMidst;
        refused(past, "lay()", NO, HookOrCrook::lay);
        refused(past, "keep()", FULL, HookOrCrook::keep);
        refused(past, "write(-1)", BAD, x -> x.write(-1));
        refused(past, "take(0, 0): gone", NO, x -> x.take(0, 0));
        refused(past, "take(1, 2): gone", NO, x -> x.take(1, 2));
        refused(past, "take(0, 1): too high", NO, x -> x.take(0, 1));
        refused(past, "take(1, 1): too heavy", NO, x -> x.take(1, 1));
        refused(past, "take(1, 3): OAK", NO, x -> x.take(1, 3));
        refused(past, "take(2, 3)", BAD, x -> x.take(2, 3));
        refused(past, "take(-1, 3)", BAD, x -> x.take(-1, 3));
        refused(past, "take(0, 4)", BAD, x -> x.take(0, 4));
        refused(past, "take(0, -1)", BAD, x -> x.take(0, -1));
        refused(past, "pass(0)", BAD, x -> x.pass(0));
        refused(past, "pass(-1)", BAD, x -> x.pass(-1));
        refused(past, "pass(31)", BAD, x -> x.pass(31));
        refused(past, "hook(0, 0)", BAD, x -> x.hook(0, 0));
        refused(past, "hook(0, 21)", BAD, x -> x.hook(0, 21));
        refused(past, "hook(2, 5)", BAD, x -> x.hook(2, 5));
        refused(past, "hook(-1, 5)", BAD, x -> x.hook(-1, 5));
        refused(past, "ring(0): gone", NO, x -> x.ring(0));
        refused(past, "ring(1): RINGED", NO, x -> x.ring(1));
        refused(past, "ring(3): DEAD", NO, x -> x.ring(3));
        refused(past, "ring(4)", BAD, x -> x.ring(4));
        refused(past, "ring(-1)", BAD, x -> x.ring(-1));
    }

    private static void onTheLastDay() {
        sentence("refused on DAY 99");
        Supplier<HookOrCrook> past = RefusedCallsTest::atTheEnd;
        refused(past, "pass(1)", NO, x -> x.pass(1));
        refused(past, "pass(30)", NO, x -> x.pass(30));
        refused(past, "pass(31)", BAD, x -> x.pass(31));
        refused(past, "ring(1)", NO, x -> x.ring(1));
        refused(past, "take(1, 1): too heavy", NO, x -> x.take(1, 1));
        refused(past, "warmBy(98)", BAD, x -> x.warmBy(98));
        refused(past, "warmBy(100)", BAD, x -> x.warmBy(100));
        refused(past, "storm(0, 2, 0)", NO, x -> x.storm(0, 2, 0));
        refused(past, "firstDay(1, 1)", NONE, x -> x.firstDay(1, 1));
        refused(past, "allWarm()", NONE, HookOrCrook::allWarm);
        refused(past, "pole()", NONE, HookOrCrook::pole);
        refused(past, "leastHook(1)", NONE, x -> x.leastHook(1));
        refused(past, "sticks(99, 1)", NONE, x -> x.sticks(99, 1));
        refused(past, "share(0)", NONE, x -> x.share(0));
    }

    private static void withAFullText() {
        sentence("refused with 200 letters");
        Supplier<HookOrCrook> past = RefusedCallsTest::filled;
        refused(past, "write(59)", FULL, x -> x.write(';'));
        refused(past, "write(32)", FULL, x -> x.write(32));
        refused(past, "write(126)", FULL, x -> x.write(126));
        refused(past, "write(31)", BAD, x -> x.write(31));
        refused(past, "write(127)", BAD, x -> x.write(127));
        refused(past, "fault()", NONE, HookOrCrook::fault);
    }

    private static void badAheadOfTheOthers() {
        sentence("Of several the first in this order: BAD, NO, NONE, FULL");
        HookOrCrook full = filled();
        due("BAD ahead of FULL", full.write(0), BAD);
        due("FULL", full.write(40), FULL);
        HookOrCrook last = atTheEnd();
        due("BAD ahead of NO: pass(0)", last.pass(0), BAD);
        due("BAD ahead of NO: pass(31)", last.pass(31), BAD);
        due("NO: pass(30)", last.pass(30), NO);
        due("BAD ahead of NO: storm(-1, 30, 0)", last.storm(-1, 30, 0), BAD);
        due("BAD ahead of NO: storm(10000, 30, 0)", last.storm(10000, 30, 0), BAD);
        due("BAD ahead of NO: storm(0, 31, 0)", last.storm(0, 31, 0), BAD);
        due("BAD ahead of NO: storm(0, 30, 2)", last.storm(0, 30, 2), BAD);
        due("BAD ahead of NO: storm(0, 30, -1)", last.storm(0, 30, -1), BAD);
        due("NO: storm(0, 30, 1)", last.storm(0, 30, 1), NO);
        due("BAD ahead of NO: take(2, 0), gone", last.take(2, 0), BAD);
        due("NO: take(1, 0), gone", last.take(1, 0), NO);
        due("BAD ahead of NONE: firstDay(2, 0), gone", last.firstDay(2, 0), BAD);
        due("BAD ahead of NONE: firstDay(-1, 0), gone", last.firstDay(-1, 0), BAD);
        due("NONE: firstDay(1, 0), gone", last.firstDay(1, 0), NONE);
        due("BAD ahead of NONE: sticks(98, 2)", last.sticks(98, 2), BAD);
        due("BAD ahead of NONE: sticks(100, 1)", last.sticks(100, 1), BAD);
        due("NONE: sticks(98, 1)", last.sticks(98, 1), NONE);
        due("BAD ahead of NONE: leastHook(2)", last.leastHook(2), BAD);
        due("BAD ahead of NONE: share(4)", last.share(4), BAD);
        due("BAD: sure of one with a short hook", last.sure(0, 9, 0, 0), BAD);
    }

    private static void questionsChangeNothing() {
        sentence("a question changes nothing");
        asked("can", x -> x.can(1, 3));
        asked("warmBy", x -> x.warmBy(99));
        asked("allWarm", HookOrCrook::allWarm);
        asked("share", x -> x.share(-1));
        asked("leastHook", x -> x.leastHook(0));
        asked("pole", HookOrCrook::pole);
        asked("firstDay", x -> x.firstDay(0, 3));
        asked("sticks", x -> x.sticks(4, 0));
        asked("whose", x -> x.whose(3, 99));
        asked("sure", x -> x.sure(1, 8, 3, 1));
        asked("waste", HookOrCrook::waste);
        asked("needs", HookOrCrook::needs);
        asked("storm", x -> x.storm(0, 30, 1));
        asked("fault", HookOrCrook::fault);
        asked("bough", x -> x.bough(3, 5));
        asked("tenant", x -> x.tenant(1, 5));
        asked("count", x -> x.count(6));
    }

    /** The same answer twice, and nothing is another than it would be without. */
    private static void asked(String call, ToIntFunction<HookOrCrook> made) {
        List<Supplier<HookOrCrook>> pasts = List.of(HookOrCrook::new, RefusedCallsTest::inTheMidst, RefusedCallsTest::atTheEnd);
        for (Supplier<HookOrCrook> past : pasts) {
            HookOrCrook x = past.get();
            int answer = made.applyAsInt(x);
            due(call + " again", made.applyAsInt(x), answer);
            holds(call + " changes nothing", seeAll(x).equals(seeAll(past.get())));
        }
    }

    /** Each number of each call far beyond what is told: BAD, whatever the others are, and nothing is thrown. */
    private static void numbersFarAway() throws ReflectiveOperationException {
        sentence("BAD: a number is none that is told");
        for (Method m : HookOrCrook.class.getMethods()) {
            if (m.getDeclaringClass() != HookOrCrook.class || m.getParameterCount() == 0) {
                continue;
            }
            HookOrCrook x = inTheMidst();
            for (int k = 0; k < m.getParameterCount(); k++) {
                for (int far : FAR) {
                    Integer[] numbers = new Integer[m.getParameterCount()];
                    Arrays.fill(numbers, 1);
                    numbers[k] = far;
                    due(m.getName() + Arrays.toString(numbers), call(x, m, numbers), BAD);
                    Arrays.fill(numbers, far);
                    numbers[k] = 1;
                    call(x, m, numbers);
                }
            }
            // With one number alone the last call was one that is not refused.
            holds("nothing changes by " + m.getName(), m.getParameterCount() == 1 || seeAll(x).equals(seeAll(inTheMidst())));
        }
    }

    private static int call(HookOrCrook x, Method m, Integer[] numbers) throws ReflectiveOperationException {
        try {
            return (int) m.invoke(x, (Object[]) numbers);
        } catch (InvocationTargetException thrown) {
            holds(m.getName() + Arrays.toString(numbers) + " throws nothing: " + thrown.getCause(), false);
            return 0;
        }
    }
}

/** What the tests share: answers that are due, and forests laid from a TEXT. */
abstract class Answers {
    static final int BAD = -1, NO = -2, FULL = -3, NONE = -4;
    static final int[] WILD = {-1, Integer.MIN_VALUE, Integer.MAX_VALUE, 1000};
    private static int wrong = 0;
    private static String told = "";

    /** The words of the document that the calls from here on are about. */
    static void sentence(String words) {
        told = words;
    }

    static void due(String call, int got, int want) {
        if (got != want) {
            wrong++;
            System.out.println(told + ": " + call + " answered " + got + ", due is " + want);
        }
    }

    static void holds(String what, boolean so) {
        if (!so) {
            wrong++;
            System.out.println(told + ": not so: " + what);
        }
    }

    /** Ends the test: what to say if all is well. */
    static void finish(String well) {
        System.out.println(wrong == 0 ? well : wrong + " answers are wrong");
        if (wrong != 0) {
            System.exit(1);
        }
    }

    /** Makes it THE TEXT. */
    static void put(HookOrCrook x, String text) {
        x.wipe();
        for (int k = 0; k < text.length(); k++) {
            due("write " + text.charAt(k), x.write(text.charAt(k)), k + 1);
        }
    }

    static HookOrCrook laid(String text) {
        HookOrCrook x = new HookOrCrook();
        put(x, text);
        due("lay " + text, x.lay(), howMany(text, 'b'));
        return x;
    }

    static int howMany(String text, char letter) {
        return (int) text.chars().filter(c -> c == letter).count();
    }

    static void faultOf(String text, int want) {
        HookOrCrook x = new HookOrCrook();
        put(x, text);
        due("fault of " + text, x.fault(), want);
    }

    static void passTo(HookOrCrook x, int day) {
        while (x.count(2) < day) {
            x.pass(Math.min(30, day - x.count(2)));
        }
    }

    static HookOrCrook laidOn(int day, String text) {
        HookOrCrook x = laid(text);
        passTo(x, day);
        return x;
    }
}

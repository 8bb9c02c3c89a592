import java.io.IOException;
import java.lang.reflect.Constructor;
import java.lang.reflect.Field;
import java.lang.reflect.Member;
import java.lang.reflect.Method;
import java.lang.reflect.Modifier;
import java.nio.file.Files;
import java.nio.file.Path;
import java.util.Arrays;
import java.util.HashSet;
import java.util.List;
import java.util.Set;
import java.util.TreeSet;

/** That the program keeps to its face and to what ../shared/LANGUAGE.md leaves, as far as a scan can tell. */
public final class LanguageTest {
    private static final List<String> FACE = List.of(
        "write 1", "wipe 0", "fault 0", "lay 0", "bough 2", "tenant 2", "can 2", "take 2", "pass 1", "hook 2", "ring 1", "undo 0",
        "warmBy 1", "allWarm 0", "share 1", "leastHook 1", "pole 0", "firstDay 2", "sticks 2", "whose 2", "sure 4", "waste 0",
        "needs 0", "storm 3", "keep 0", "back 0", "count 1");
    private static final String[] NOT_LEFT = {"throw", "throws", "try", "catch", "finally", "synchronized", "assert", "import", "package",
        "native", "volatile", "transient", "var", "Object", "equals", "hashCode", "toString", "Random", "Thread"};
    private static int wrong = 0;

    public static void main(String[] args) throws IOException {
        face();
        holds(HookOrCrook.class.getDeclaredClasses().length < 12, "at most some twelve classes");
        for (Class<?> inner : HookOrCrook.class.getDeclaredClasses()) {
            holds(Modifier.isStatic(inner.getModifiers()), inner + " is static");
            statics(inner);
        }
        statics(HookOrCrook.class);
        words(Files.readString(Path.of("src/main/java/HookOrCrook.java")));
        System.out.println(wrong == 0 ? "the language is kept to" : wrong + " rules are broken");
        if (wrong != 0) {
            System.exit(1);
        }
    }

    private static void holds(boolean so, String what) {
        if (!so) {
            wrong++;
            System.out.println("not so: " + what);
        }
    }

    private static void face() {
        Class<?> c = HookOrCrook.class;
        holds(Modifier.isPublic(c.getModifiers()) && Modifier.isFinal(c.getModifiers()), "the class is public and final");
        Set<String> seen = new TreeSet<>();
        Set<String> names = new HashSet<>();
        for (Method m : c.getDeclaredMethods()) {
            if (Modifier.isPublic(m.getModifiers())) {
                seen.add(m.getName() + " " + m.getParameterCount());
                names.add(m.getName());
                holds(m.getReturnType() == int.class && Arrays.stream(m.getParameterTypes()).allMatch(t -> t == int.class), m + " is of int");
            }
        }
        holds(seen.equals(new TreeSet<>(FACE)), "the face is " + FACE + ", not " + seen);
        for (Method m : c.getDeclaredMethods()) {
            holds(isOfTheFaceOrPrivate(m), m + " is private");
            holds(!Modifier.isPrivate(m.getModifiers()) || !names.contains(m.getName()), m + " bears no public name");
        }
        for (Constructor<?> k : c.getDeclaredConstructors()) {
            holds(Modifier.isPublic(k.getModifiers()) && k.getParameterCount() == 0, k + " is the document's");
        }
        for (Field f : c.getDeclaredFields()) {
            holds(Modifier.isPrivate(f.getModifiers()) || List.of("BAD", "NO", "FULL", "NONE").contains(f.getName()), f + " is private");
        }
    }

    private static boolean isOfTheFaceOrPrivate(Member m) {
        return Modifier.isPublic(m.getModifiers()) || Modifier.isPrivate(m.getModifiers()) || m.isSynthetic();
    }

    private static void statics(Class<?> c) {
        int held = 0;
        for (Field f : c.getDeclaredFields()) {
            holds(!Modifier.isStatic(f.getModifiers()) || Modifier.isFinal(f.getModifiers()), f + " is final");
            held += Modifier.isStatic(f.getModifiers()) ? 0 : 1;
        }
        holds(held <= 20, c + " has some twenty fields");
        for (Method m : c.getDeclaredMethods()) {
            holds(m.getParameterCount() <= 7, m + " takes at most seven");
        }
    }

    private static void words(String source) {
        String bare = source.replaceAll("(?s)/\\*.*?\\*/", " ").replaceAll("//[^\n]*", " ").replaceAll("\"[^\"]*\"", "\"\"");
        Set<String> used = new HashSet<>(Arrays.asList(bare.split("[^A-Za-z]+")));
        for (String word : NOT_LEFT) {
            holds(!used.contains(word), "no " + word);
        }
        holds(!bare.contains("->") && !bare.contains("::"), "no lambda, no method reference");
        holds(!bare.contains("Exact"), "none that ends in Exact");
        holds(!bare.contains("while"), "every loop is counted");
        holds(source.chars().allMatch(c -> c == '\n' || c >= 32 && c < 127), "plain letters");
        makes(bare);
    }

    /** What is made is made by a field's initialiser, or is a row of States in the one constructor that makes such. */
    private static void makes(String bare) {
        for (String line : bare.split("\n")) {
            boolean ofAField = line.matches(" +(private )?final \\S+ \\w+ = new [^;]*;");
            boolean ofThePile = line.matches(" +states(\\[k\\])? = new State[^;]*;");
            holds(!line.matches(".*\\bnew\\b.*") || ofAField || ofThePile, "no call makes an object:" + line);
        }
    }
}

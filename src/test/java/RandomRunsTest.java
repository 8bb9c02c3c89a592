import java.util.ArrayList;
import java.util.List;
import java.util.Random;
import java.util.regex.Matcher;
import java.util.regex.Pattern;

/** Runs of calls drawn from fixed seeds, each answer compared with that of a slow model that follows the document's words. */
public final class RandomRunsTest {
    private static final int BAD = -1, NO = -2, FULL = -3, NONE = -4;
    private static final int RUNS = 1500;

    public static void main(String[] args) {
        for (int seed = 0; seed < RUNS; seed++) {
            if (!runAgrees(seed)) {
                System.exit(1);
            }
        }
        System.out.println(RUNS + " runs agree");
    }

    private static boolean runAgrees(int seed) {
        Random random = new Random(seed);
        HookOrCrook x = new HookOrCrook();
        Model m = new Model();
        StringBuilder told = new StringBuilder();
        int calls = 0;
        while (calls < 512) {
            if (random.nextInt(40) == 0 || calls == 0 && random.nextInt(4) != 0) {
                String text = randomText(random);
                calls += text.length() + 2;
                if (!same(told, "wipe", x.wipe(), m.wipe())) {
                    return lost(seed, told);
                }
                for (int k = 0; k < text.length(); k++) {
                    if (!same(told, "write " + text.charAt(k), x.write(text.charAt(k)), m.write(text.charAt(k)))) {
                        return lost(seed, told);
                    }
                }
                if (!same(told, "lay", x.lay(), m.lay())) {
                    return lost(seed, told);
                }
            }
            calls++;
            if (!callAgrees(random, x, m, told)) {
                return lost(seed, told);
            }
        }
        return true;
    }

    private static boolean lost(int seed, StringBuilder told) {
        System.out.println("run " + seed + ":\n" + told);
        return false;
    }

    private static boolean same(StringBuilder told, String call, int got, int want) {
        told.append(call).append(" answered ").append(got);
        if (got != want) {
            told.append(", due is ").append(want);
        }
        told.append('\n');
        return got == want;
    }

    private static String randomText(Random random) {
        StringBuilder text = new StringBuilder();
        int boughs = random.nextInt(30) == 0 ? 9 : 1 + random.nextInt(8);
        int tenants = random.nextInt(30) == 0 ? 5 : 1 + random.nextInt(4);
        int heavy = random.nextBoolean() ? 20 : 6;
        int late = new int[] {1, 8, 30, 61}[random.nextInt(4)];
        for (int b = 0; b < boughs; b++) {
            text.append("b").append(random.nextInt(4)).append(',').append(1 + random.nextInt(20)).append(',')
                .append(1 + random.nextInt(heavy)).append(',').append(random.nextInt(late)).append(';');
        }
        for (int i = 0; i < tenants; i++) {
            text.append("t").append(1 + random.nextInt(20)).append(',').append(1 + random.nextInt(2 * heavy)).append(',')
                .append(1 + random.nextInt(random.nextBoolean() ? 60 : 2 * heavy)).append(';');
        }
        if (random.nextBoolean()) {
            text.append("k").append(1 + random.nextInt(20)).append(',').append(1 + random.nextInt(9)).append(';');
        }
        if (random.nextBoolean()) {
            text.append("f").append(1 + random.nextInt(30)).append(';');
        }
        if (random.nextInt(6) == 0) {
            text.setCharAt(random.nextInt(text.length()), "btkf,;0123456789 x".charAt(random.nextInt(18)));
        }
        if (random.nextInt(10) == 0) {
            text.deleteCharAt(random.nextInt(text.length()));
        }
        return text.toString();
    }

    /** Most often within, often on the bounds, now and then just beyond or far away. */
    private static int about(Random random, int least, int most) {
        int way = random.nextInt(60);
        if (way == 0) {
            return least - 1;
        }
        if (way == 1) {
            return most + 1;
        }
        if (way == 2) {
            return random.nextInt();
        }
        if (way < 8) {
            return way % 2 == 0 ? least : most;
        }
        return least + random.nextInt(most - least + 1);
    }

    private static boolean callAgrees(Random r, HookOrCrook x, Model m, StringBuilder told) {
        int b = about(r, 0, 7);
        int i = about(r, 0, 3);
        int n;
        int w;
        switch (r.nextInt(34)) {
            case 0: n = about(r, 32, 126); return same(told, "write " + n, x.write(n), m.write(n));
            case 1: return same(told, "fault", x.fault(), m.fault());
            case 2: n = about(r, 0, 6); return same(told, "bough " + b + " " + n, x.bough(b, n), m.bough(b, n));
            case 3: n = about(r, 0, 5); return same(told, "tenant " + i + " " + n, x.tenant(i, n), m.tenant(i, n));
            case 4: return same(told, "can " + i + " " + b, x.can(i, b), m.can(i, b));
            case 5: case 6: case 7: case 8: case 9:
                return same(told, "take " + i + " " + b, x.take(i, b), m.take(i, b));
            case 10: case 11: n = about(r, 1, r.nextInt(4) == 0 ? 30 : 4); return same(told, "pass " + n, x.pass(n), m.pass(n));
            case 12: n = about(r, 1, 20); return same(told, "hook " + i + " " + n, x.hook(i, n), m.hook(i, n));
            case 13: return same(told, "ring " + b, x.ring(b), m.ring(b));
            case 14: case 15: return same(told, "undo", x.undo(), m.undo());
            case 16: n = about(r, 0, 99); return same(told, "warmBy " + n, x.warmBy(n), m.warmBy(n));
            case 17: return same(told, "allWarm", x.allWarm(), m.allWarm());
            case 18: n = about(r, -1, 7); return same(told, "share " + n, x.share(n), m.share(n));
            case 19: return same(told, "leastHook " + i, x.leastHook(i), m.leastHook(i));
            case 20: return same(told, "pole", x.pole(), m.pole());
            case 21: return same(told, "firstDay " + i + " " + b, x.firstDay(i, b), m.firstDay(i, b));
            case 22: case 23: n = about(r, 0, r.nextBoolean() ? 99 : 20); w = about(r, 0, 1);
                return same(told, "sticks " + n + " " + w, x.sticks(n, w), m.sticks(n, w));
            case 24: n = about(r, 0, 99); return same(told, "whose " + b + " " + n, x.whose(b, n), m.whose(b, n));
            case 25: n = about(r, 0, 8); int chance = about(r, 0, 10); w = about(r, 0, 1);
                return same(told, "sure " + i + " " + n + " " + chance + " " + w, x.sure(i, n, chance, w), m.sure(i, n, chance, w));
            case 26: return same(told, "waste", x.waste(), m.waste());
            case 27: return same(told, "needs", x.needs(), m.needs());
            case 28: case 29: int z = about(r, 0, 9999); n = about(r, 1, r.nextBoolean() ? 30 : 5); w = about(r, 0, 1);
                return same(told, "storm " + z + " " + n + " " + w, x.storm(z, n, w), m.storm(z, n, w));
            case 30: return same(told, "keep", x.keep(), m.keep());
            case 31: return r.nextInt(3) != 0 || same(told, "back", x.back(), m.back());
            default: n = about(r, 0, 9); return same(told, "count " + n, x.count(n), m.count(n));
        }
    }

    /** A bough as it stands. */
    private static final class Bough {
        int kind, height, weight, dead;
        boolean gone, blown;

        Bough copy() {
            Bough c = new Bough();
            c.kind = kind;
            c.height = height;
            c.weight = weight;
            c.dead = dead;
            c.gone = gone;
            c.blown = blown;
            return c;
        }
    }

    private static final class Tenant {
        int reach, back, need, stack, carried;

        Tenant copy() {
            Tenant c = new Tenant();
            c.reach = reach;
            c.back = back;
            c.need = need;
            c.stack = stack;
            c.carried = carried;
            return c;
        }

        boolean warm() {
            return stack >= need;
        }
    }

    private static final class World {
        int day, pole = 20, walk = 3, fall = 10;
        final List<Bough> boughs = new ArrayList<>();
        final List<Tenant> tenants = new ArrayList<>();

        World copy() {
            World c = new World();
            c.day = day;
            c.pole = pole;
            c.walk = walk;
            c.fall = fall;
            for (Bough b : boughs) {
                c.boughs.add(b.copy());
            }
            for (Tenant t : tenants) {
                c.tenants.add(t.copy());
            }
            return c;
        }

        boolean fallen(Bough b, int d) {
            return b.blown || d - b.dead >= fall;
        }

        boolean could(Tenant t, Bough b, int d, int carried) {
            if (!b.blown && d < b.dead || carried + b.weight > t.back) {
                return false;
            }
            if (fallen(b, d) || b.kind == 3) {
                return true;
            }
            if (b.kind == 0) {
                return t.reach >= b.height;
            }
            return b.kind == 2 && t.reach >= b.height + 3;
        }

        boolean can(Tenant t, Bough b) {
            return !b.gone && could(t, b, day, t.carried);
        }

        void give(Tenant t, Bough b) {
            b.gone = true;
            t.stack += b.weight;
            t.carried += b.weight;
        }

        void next(int n) {
            day += n;
            for (Tenant t : tenants) {
                t.carried = 0;
            }
        }

        void live() {
            for (Tenant t : tenants) {
                boolean more = true;
                while (more) {
                    more = false;
                    for (Bough b : boughs) {
                        if (!t.warm() && can(t, b)) {
                            give(t, b);
                            more = true;
                            break;
                        }
                    }
                }
            }
        }

        World at(int d) {
            World w = copy();
            w.live();
            while (w.day < d) {
                w.next(1);
                w.live();
            }
            return w;
        }

        int warm() {
            int bits = 0;
            for (int i = 0; i < tenants.size(); i++) {
                bits += tenants.get(i).warm() ? 1 << i : 0;
            }
            return bits;
        }

        boolean all() {
            return tenants.stream().allMatch(Tenant::warm);
        }

        int first(Tenant t, Bough b) {
            for (int d = day; d < 100; d++) {
                if (!b.gone && could(t, b, d, 0)) {
                    return d;
                }
            }
            return NONE;
        }
    }

    private static final class Model {
        private static final Pattern ITEM = Pattern.compile(
            "b(\\d\\d?),(\\d\\d?),(\\d\\d?),(\\d\\d?);|t(\\d\\d?),(\\d\\d?),(\\d\\d?);|k(\\d\\d?),(\\d\\d?);|f(\\d\\d?);");
        private static final int[] LEAST = {0, 1, 1, 0, 1, 1, 1, 1, 1, 1};
        private static final int[] MOST = {3, 20, 20, 60, 20, 40, 60, 20, 9, 30};
        private String text = "";
        private World w;
        private List<World> past = new ArrayList<>();
        private List<World> kept = new ArrayList<>();
        private int fault;

        Model() {
            w = parse("b0,6,4,0;b0,9,7,2;b1,5,9,0;b2,4,5,1;b3,15,3,4;b0,12,6,8;t6,8,9;t10,6,12;t7,9,6;k8,3;f6;");
        }

        private World parse(String told) {
            World n = new World();
            fault = NONE;
            Matcher m = ITEM.matcher(told);
            int at = 0;
            while (at < told.length()) {
                if (!m.find(at) || m.start() != at || !put(m, n)) {
                    fault = at;
                    return n;
                }
                at = m.end();
            }
            return n;
        }

        private static boolean put(Matcher m, World n) {
            int[] v = new int[10];
            for (int g = 0; g < 10; g++) {
                if (m.group(g + 1) != null) {
                    v[g] = Integer.parseInt(m.group(g + 1));
                    if (v[g] < LEAST[g] || v[g] > MOST[g]) {
                        return false;
                    }
                }
            }
            if (m.group(1) != null) {
                Bough b = new Bough();
                b.kind = v[0];
                b.height = v[1];
                b.weight = v[2];
                b.dead = v[3];
                n.boughs.add(b);
            } else if (m.group(5) != null) {
                Tenant t = new Tenant();
                t.reach = v[4];
                t.back = v[5];
                t.need = v[6];
                n.tenants.add(t);
            } else if (m.group(8) != null) {
                n.pole = v[7];
                n.walk = v[8];
            } else {
                n.fall = v[9];
            }
            return n.boughs.size() <= 8 && n.tenants.size() <= 4;
        }

        private boolean noBough(int b) {
            return b < 0 || b >= w.boughs.size();
        }

        private boolean noTenant(int i) {
            return i < 0 || i >= w.tenants.size();
        }

        private static boolean out(int n, int least, int most) {
            return n < least || n > most;
        }

        int write(int letter) {
            if (out(letter, 32, 126)) {
                return BAD;
            }
            if (text.length() == 200) {
                return FULL;
            }
            text += (char) letter;
            return text.length();
        }

        int wipe() {
            int was = text.length();
            text = "";
            return was;
        }

        int fault() {
            parse(text);
            return fault;
        }

        int lay() {
            World n = parse(text);
            if (fault != NONE || n.boughs.isEmpty() || n.tenants.isEmpty()) {
                return NO;
            }
            w = n;
            past.clear();
            kept.clear();
            return n.boughs.size();
        }

        int bough(int b, int what) {
            if (noBough(b) || out(what, 0, 6)) {
                return BAD;
            }
            Bough x = w.boughs.get(b);
            return new int[] {x.kind, x.height, x.weight, x.dead, w.day >= x.dead ? 1 : 0, w.fallen(x, w.day) ? 1 : 0,
                x.gone ? 1 : 0}[what];
        }

        int tenant(int i, int what) {
            if (noTenant(i) || out(what, 0, 5)) {
                return BAD;
            }
            Tenant t = w.tenants.get(i);
            return new int[] {t.reach, t.back, t.need, t.stack, t.carried, t.warm() ? 1 : 0}[what];
        }

        int can(int i, int b) {
            if (noTenant(i) || noBough(b)) {
                return BAD;
            }
            return w.can(w.tenants.get(i), w.boughs.get(b)) ? 1 : 0;
        }

        private void remember() {
            past.add(w.copy());
            if (past.size() > 8) {
                past.remove(0);
            }
        }

        int take(int i, int b) {
            int can = can(i, b);
            if (can != 1) {
                return can == 0 ? NO : BAD;
            }
            remember();
            Tenant t = w.tenants.get(i);
            Bough x = w.boughs.get(b);
            w.give(t, x);
            if (!w.fallen(x, w.day) && x.kind != 3 && w.day % w.walk == 0 && t.reach > w.pole) {
                t.stack = 0;
            }
            return t.stack;
        }

        int pass(int n) {
            if (out(n, 1, 30)) {
                return BAD;
            }
            if (w.day + n > 99) {
                return NO;
            }
            remember();
            w.next(n);
            return w.day;
        }

        int hook(int i, int r) {
            if (noTenant(i) || out(r, 1, 20)) {
                return BAD;
            }
            remember();
            int was = w.tenants.get(i).reach;
            w.tenants.get(i).reach = r;
            return was;
        }

        int ring(int b) {
            if (noBough(b)) {
                return BAD;
            }
            int was = w.boughs.get(b).dead;
            if (w.boughs.get(b).gone || was <= w.day) {
                return NO;
            }
            remember();
            w.boughs.get(b).dead = w.day;
            return was;
        }

        int undo() {
            if (past.isEmpty()) {
                return NO;
            }
            w = past.remove(past.size() - 1);
            return past.size();
        }

        int warmBy(int d) {
            return out(d, w.day, 99) ? BAD : w.at(d).warm();
        }

        int allWarm() {
            for (int d = w.day; d < 100; d++) {
                if (w.at(d).all()) {
                    return d;
                }
            }
            return NONE;
        }

        int share(int b) {
            if (b != -1 && noBough(b)) {
                return BAD;
            }
            int boughs = w.boughs.size();
            int tenants = w.tenants.size();
            int most = -1;
            int[] best = null;
            int ways = (int) Math.round(Math.pow(tenants + 1, boughs));
            for (int way = 0; way < ways; way++) {
                int[] owner = new int[boughs];
                int[] load = new int[tenants];
                int left = way;
                for (int k = boughs - 1; k >= 0; k--) {
                    owner[k] = left % (tenants + 1);
                    left /= tenants + 1;
                }
                int weight = 0;
                boolean so = true;
                for (int k = 0; k < boughs && so; k++) {
                    if (owner[k] < tenants) {
                        Tenant t = w.tenants.get(owner[k]);
                        so = w.can(t, w.boughs.get(k));
                        load[owner[k]] += w.boughs.get(k).weight;
                        weight += w.boughs.get(k).weight;
                        so = so && t.carried + load[owner[k]] <= t.back;
                    }
                }
                if (so && weight > most) {
                    most = weight;
                    best = owner;
                }
            }
            return b == -1 ? most : best[b] == tenants ? NONE : best[b];
        }

        int leastHook(int i) {
            if (noTenant(i)) {
                return BAD;
            }
            for (int r = 1; r <= 20; r++) {
                World c = w.copy();
                c.tenants.get(i).reach = r;
                if (c.at(99).tenants.get(i).warm()) {
                    return r;
                }
            }
            return NONE;
        }

        int pole() {
            for (int p = 1; p <= 20; p++) {
                World c = w.copy();
                for (Tenant t : c.tenants) {
                    t.reach = Math.min(t.reach, p);
                }
                if (c.at(99).all()) {
                    return p;
                }
            }
            return NONE;
        }

        int firstDay(int i, int b) {
            return noTenant(i) || noBough(b) ? BAD : w.first(w.tenants.get(i), w.boughs.get(b));
        }

        int sticks(int weight, int what) {
            if (out(weight, 0, 99) || out(what, 0, 1)) {
                return BAD;
            }
            int sets = 0;
            int first = NONE;
            for (int set = (1 << w.boughs.size()) - 1; set >= 0; set--) {
                int sum = 0;
                boolean so = true;
                for (int k = 0; k < w.boughs.size(); k++) {
                    if ((set & 1 << k) != 0) {
                        sum += w.boughs.get(k).weight;
                        so = so && w.boughs.get(k).gone;
                    }
                }
                if (so && sum == weight) {
                    sets++;
                    first = set;
                }
            }
            return what == 0 ? sets : first;
        }

        int whose(int b, int d) {
            if (noBough(b) || out(d, 0, 99)) {
                return BAD;
            }
            int bits = 0;
            for (int i = 0; i < w.tenants.size(); i++) {
                bits += w.could(w.tenants.get(i), w.boughs.get(b), d, 0) ? 1 << i : 0;
            }
            return bits;
        }

        int sure(int i, int n, int x, int part) {
            if (noTenant(i) || out(n, 0, 8) || out(x, 0, 10) || out(part, 0, 1)) {
                return BAD;
            }
            if (w.tenants.get(i).reach <= w.pole) {
                return 1;
            }
            long above = 1;
            long below = 1;
            for (int k = 0; k < n; k++) {
                above *= 10 - x;
                below *= 10;
            }
            long p = above;
            long q = below;
            while (q != 0) {
                long rest = p % q;
                p = q;
                q = rest;
            }
            return (int) ((part == 0 ? above : below) / p);
        }

        int waste() {
            int sum = 0;
            for (Bough b : w.boughs) {
                if (!b.gone && w.tenants.stream().allMatch(t -> w.first(t, b) == NONE)) {
                    sum += b.weight;
                }
            }
            return sum;
        }

        int needs() {
            return w.tenants.stream().mapToInt(t -> t.warm() ? 0 : t.need - t.stack).sum();
        }

        int storm(int z, int n, int what) {
            if (out(z, 0, 9999) || out(n, 1, 30) || out(what, 0, 1)) {
                return BAD;
            }
            if (w.day + n > 100) {
                return NO;
            }
            World c = w.copy();
            for (int k = 0; k < n; k++) {
                long x = 7919L * z + 6151L * k + 1;
                int draw = (int) (x * x % 65521) / 2;
                if (draw / 8 % 3 == 0) {
                    c.boughs.get(draw % c.boughs.size()).blown = true;
                }
                c.live();
                c.next(1);
            }
            int weight = 0;
            for (int b = 0; b < c.boughs.size(); b++) {
                weight += c.boughs.get(b).gone && !w.boughs.get(b).gone ? c.boughs.get(b).weight : 0;
            }
            return what == 0 ? c.warm() : weight;
        }

        int keep() {
            if (kept.size() == 2) {
                return FULL;
            }
            kept.add(w.copy());
            return kept.size();
        }

        int back() {
            if (kept.isEmpty()) {
                return NO;
            }
            w = kept.remove(kept.size() - 1);
            past.clear();
            return kept.size();
        }

        int count(int what) {
            if (out(what, 0, 9)) {
                return BAD;
            }
            return new int[] {w.boughs.size(), w.tenants.size(), w.day, w.pole, w.walk, w.fall,
                (int) w.boughs.stream().filter(b -> b.gone).count(), past.size(), kept.size(), text.length()}[what];
        }
    }
}

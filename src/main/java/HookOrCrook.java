/** By hook or by crook: who may have what dead wood of the lord's forest can be pulled down with a hook. */
public final class HookOrCrook {
    public static final int BAD = -1, NO = -2, FULL = -3, NONE = -4;

    private static final int MOST_BOUGHS = 8;
    private static final int MOST_TENANTS = 4;
    private static final int LAST_DAY = 99;
    private static final int LONGEST_HOOK = 20;
    private static final int MOST_UNDONE = 8;
    private static final int MOST_KEPT = 2;
    private static final String FIRST_TEXT =
        "b0,6,4,0;b0,9,7,2;b1,5,9,0;b2,4,5,1;b3,15,3,4;b0,12,6,8;t6,8,9;t10,6,12;t7,9,6;k8,3;f6;";

    private final Text text = new Text();
    private final Forest forest = new Forest();
    private final State now = new State();
    private final Pile past = new Pile(MOST_UNDONE);
    private final Pile kept = new Pile(MOST_KEPT);
    private final Course course = new Course(forest);
    private final Dealing dealing = new Dealing(forest);

    public HookOrCrook() {
        text.become(FIRST_TEXT);
        forest.read(text, now);
        text.length = 0;
    }

    // ---- forests

    public int write(int letter) {
        if (!isWithin(letter, 32, 126)) {
            return BAD;
        }
        if (text.isFull()) {
            return FULL;
        }
        text.add((char) letter);
        return text.length;
    }

    public int wipe() {
        int was = text.length;
        text.length = 0;
        return was;
    }

    public int fault() {
        return text.firstFault();
    }

    public int lay() {
        if (!text.canBeLaid()) {
            return NO;
        }
        forest.read(text, now);
        past.clear();
        kept.clear();
        return forest.boughs;
    }

    public int bough(int b, int what) {
        if (!forest.hasBough(b)) {
            return BAD;
        }
        switch (what) {
            case 0: return forest.kind(b);
            case 1: return forest.height(b);
            case 2: return forest.weight(b);
            case 3: return now.deadFrom(b);
            case 4: return bit(forest.isDead(now, b, now.day));
            case 5: return bit(forest.hasFallen(now, b, now.day));
            case 6: return bit(now.isGone(b));
            default: return BAD;
        }
    }

    public int tenant(int i, int what) {
        if (!forest.hasTenant(i)) {
            return BAD;
        }
        switch (what) {
            case 0: return now.reach(i);
            case 1: return forest.strength(i);
            case 2: return forest.hearth(i);
            case 3: return now.stack(i);
            case 4: return now.carried(i);
            case 5: return bit(forest.isWarm(now, i));
            default: return BAD;
        }
    }

    // ---- days

    public int can(int i, int b) {
        if (!forest.hasTenant(i) || !forest.hasBough(b)) {
            return BAD;
        }
        return bit(forest.canTake(now, i, b));
    }

    public int take(int i, int b) {
        if (!forest.hasTenant(i) || !forest.hasBough(b)) {
            return BAD;
        }
        if (!forest.canTake(now, i, b)) {
            return NO;
        }
        boolean caught = forest.isCaught(now, i, b);
        past.add(now);
        now.pick(i, b, forest.weight(b));
        if (caught) {
            now.loseStack(i);
        }
        return now.stack(i);
    }

    public int pass(int n) {
        if (!isWithin(n, 1, 30)) {
            return BAD;
        }
        if (now.day + n > LAST_DAY) {
            return NO;
        }
        past.add(now);
        now.goBy(n);
        return now.day;
    }

    public int hook(int i, int r) {
        if (!forest.hasTenant(i) || !isWithin(r, 1, LONGEST_HOOK)) {
            return BAD;
        }
        int was = now.reach(i);
        past.add(now);
        now.setReach(i, r);
        return was;
    }

    public int ring(int b) {
        if (!forest.hasBough(b)) {
            return BAD;
        }
        if (now.isGone(b) || forest.isDead(now, b, now.day)) {
            return NO;
        }
        int was = now.deadFrom(b);
        past.add(now);
        now.setDeadFrom(b, now.day);
        return was;
    }

    public int undo() {
        if (past.many == 0) {
            return NO;
        }
        past.moveLastTo(now);
        return past.many;
    }

    // ---- each for himself

    public int warmBy(int d) {
        if (!isWithin(d, now.day, LAST_DAY)) {
            return BAD;
        }
        course.begin(now);
        course.goTo(d);
        return forest.warmOnes(course.state);
    }

    public int allWarm() {
        course.begin(now);
        return course.firstDayAllWarm();
    }

    // ---- what would be

    public int share(int b) {
        if (b != -1 && !forest.hasBough(b)) {
            return BAD;
        }
        dealing.find(now);
        return b == -1 ? dealing.most : dealing.whoHas(b);
    }

    public int leastHook(int i) {
        if (!forest.hasTenant(i)) {
            return BAD;
        }
        for (int r = 1; r <= LONGEST_HOOK; r++) {
            course.begin(now);
            course.state.setReach(i, r);
            course.goTo(LAST_DAY);
            if (forest.isWarm(course.state, i)) {
                return r;
            }
        }
        return NONE;
    }

    public int pole() {
        for (int p = 1; p <= LONGEST_HOOK; p++) {
            course.begin(now);
            course.shortenHooks(p);
            course.goTo(LAST_DAY);
            if (forest.areAllWarm(course.state)) {
                return p;
            }
        }
        return NONE;
    }

    public int firstDay(int i, int b) {
        if (!forest.hasTenant(i) || !forest.hasBough(b)) {
            return BAD;
        }
        return forest.firstDayFor(now, i, b);
    }

    // ---- what was

    public int sticks(int w, int what) {
        if (!isWithin(w, 0, 99) || !isWithin(what, 0, 1)) {
            return BAD;
        }
        int sets = 0;
        int first = NONE;
        for (int set = 0; set < 1 << MOST_BOUGHS; set++) {
            if ((set & ~now.gone) == 0 && forest.weightOf(set) == w) {
                sets++;
                if (first == NONE) {
                    first = set;
                }
            }
        }
        return what == 0 ? sets : first;
    }

    public int whose(int b, int d) {
        if (!forest.hasBough(b) || !isWithin(d, 0, LAST_DAY)) {
            return BAD;
        }
        int ones = 0;
        for (int i = 0; i < forest.tenants; i++) {
            if (forest.couldTake(now, i, b, d, 0)) {
                ones |= 1 << i;
            }
        }
        return ones;
    }

    public int sure(int i, int n, int x, int part) {
        if (!forest.hasTenant(i) || !isWithin(n, 0, 8) || !isWithin(x, 0, 10) || !isWithin(part, 0, 1)) {
            return BAD;
        }
        if (now.reach(i) <= forest.longest) {
            return 1;
        }
        // Powers of a fraction in lowest terms are in lowest terms again.
        int common = commonWithTen(10 - x);
        int base = (part == 0 ? 10 - x : 10) / common;
        int power = 1;
        for (int k = 0; k < n; k++) {
            power *= base;
        }
        return power;
    }

    public int waste() {
        int all = 0;
        for (int b = 0; b < forest.boughs; b++) {
            if (!now.isGone(b) && forest.nobodyEverTakes(now, b)) {
                all += forest.weight(b);
            }
        }
        return all;
    }

    public int needs() {
        int all = 0;
        for (int i = 0; i < forest.tenants; i++) {
            all += Math.max(0, forest.hearth(i) - now.stack(i));
        }
        return all;
    }

    public int storm(int z, int n, int what) {
        if (!isWithin(z, 0, 9999) || !isWithin(n, 1, 30) || !isWithin(what, 0, 1)) {
            return BAD;
        }
        if (now.day + n - 1 > LAST_DAY) {
            return NO;
        }
        course.begin(now);
        course.goThroughStorm(z, n);
        if (what == 0) {
            return forest.warmOnes(course.state);
        }
        return forest.weightOf(course.state.gone & ~now.gone);
    }

    // ---- kept

    public int keep() {
        if (kept.isFull()) {
            return FULL;
        }
        kept.add(now);
        return kept.many;
    }

    public int back() {
        if (kept.many == 0) {
            return NO;
        }
        kept.moveLastTo(now);
        past.clear();
        return kept.many;
    }

    public int count(int what) {
        switch (what) {
            case 0: return forest.boughs;
            case 1: return forest.tenants;
            case 2: return now.day;
            case 3: return forest.longest;
            case 4: return forest.round;
            case 5: return forest.falls;
            case 6: return Integer.bitCount(now.gone);
            case 7: return past.many;
            case 8: return kept.many;
            case 9: return text.length;
            default: return BAD;
        }
    }

    private static boolean isWithin(int n, int least, int most) {
        return n >= least && n <= most;
    }

    private static int bit(boolean so) {
        return so ? 1 : 0;
    }

    /** Zero has ten in common with ten: no chance at all is 0 of 1. */
    private static int commonWithTen(int n) {
        for (int d = 10; d > 1; d--) {
            if (10 % d == 0 && n % d == 0) {
                return d;
            }
        }
        return 1;
    }

    /** THE TEXT, and how its ITEMS are read. */
    private static final class Text {
        private static final int MOST_LETTERS = 200;
        private static final int MOST_NUMBERS = 4;
        // The numbers of b, then of t, k and f.
        private static final int[] LEAST = {0, 1, 1, 0, 1, 1, 1, 1, 1, 1};
        private static final int[] MOST = {3, 20, 20, 60, 20, 40, 60, 20, 9, 30};

        private final char[] letters = new char[MOST_LETTERS];
        private final int[] numbers = new int[MOST_NUMBERS];
        int length;

        boolean isFull() {
            return length >= MOST_LETTERS;
        }

        void add(char letter) {
            if (length >= 0 && length < letters.length) {
                letters[length] = letter;
                length++;
            }
        }

        void become(String other) {
            length = 0;
            for (int k = 0; k < other.length(); k++) {
                add(other.charAt(k));
            }
        }

        /** The letter at a place; 0, which is in no ITEM, where there is none. */
        char letter(int place) {
            return place >= 0 && place < length && place < letters.length ? letters[place] : 0;
        }

        /** The k-th number of the ITEM read last. */
        int number(int k) {
            return k >= 0 && k < numbers.length ? numbers[k] : 0;
        }

        int firstFault() {
            int boughs = 0;
            int tenants = 0;
            int place = 0;
            for (int k = 0; k < MOST_LETTERS && place < length; k++) {
                int next = readItem(place);
                if (letter(place) == 'b') {
                    boughs++;
                } else if (letter(place) == 't') {
                    tenants++;
                }
                if (next < 0 || boughs > MOST_BOUGHS || tenants > MOST_TENANTS) {
                    return place;
                }
                place = next;
            }
            return NONE;
        }

        boolean canBeLaid() {
            return firstFault() == NONE && has('b') && has('t');
        }

        private boolean has(char letter) {
            for (int k = 0; k < length; k++) {
                if (letter(k) == letter) {
                    return true;
                }
            }
            return false;
        }

        /** Reads the ITEM that begins at a place: the place behind it; -1, if it is not so. */
        int readItem(int place) {
            int first = firstLimit(letter(place));
            int many = howManyNumbers(letter(place));
            int at = place + 1;
            for (int k = 0; k < many; k++) {
                int figures = figuresAt(at);
                if (figures == 0 || !readNumber(at, figures, k, first + k)) {
                    return -1;
                }
                at += figures;
                if (letter(at) != (k == many - 1 ? ';' : ',')) {
                    return -1;
                }
                at++;
            }
            return many == 0 ? -1 : at;
        }

        private boolean readNumber(int at, int figures, int k, int limit) {
            int n = letter(at) - '0';
            if (figures == 2) {
                n = 10 * n + letter(at + 1) - '0';
            }
            if (k >= 0 && k < numbers.length) {
                numbers[k] = n;
            }
            return limit >= 0 && limit < LEAST.length && limit < MOST.length && isWithin(n, LEAST[limit], MOST[limit]);
        }

        private int figuresAt(int place) {
            if (!isFigure(letter(place))) {
                return 0;
            }
            return isFigure(letter(place + 1)) ? 2 : 1;
        }

        private static boolean isFigure(char letter) {
            return letter >= '0' && letter <= '9';
        }

        private static int howManyNumbers(char item) {
            switch (item) {
                case 'b': return 4;
                case 't': return 3;
                case 'k': return 2;
                case 'f': return 1;
                default: return 0;
            }
        }

        private static int firstLimit(char item) {
            switch (item) {
                case 't': return 4;
                case 'k': return 7;
                case 'f': return 9;
                default: return 0;
            }
        }
    }

    /** What days, taking, hooks and rings change; all rows are in one array, so that there are few objects and one copy. */
    private static final class State {
        private static final int STACKS = MOST_BOUGHS;
        private static final int REACHES = STACKS + MOST_TENANTS;
        private static final int CARRIED = REACHES + MOST_TENANTS;
        private static final int CELLS = CARRIED + MOST_TENANTS;

        private final int[] cells = new int[CELLS];
        int day;
        int gone;

        void become(State other) {
            if (other != null) {
                day = other.day;
                gone = other.gone;
                System.arraycopy(other.cells, 0, cells, 0, CELLS);
            }
        }

        void clear() {
            day = 0;
            gone = 0;
            for (int k = 0; k < cells.length; k++) {
                cells[k] = 0;
            }
        }

        int deadFrom(int b) {
            return b >= 0 && b < MOST_BOUGHS ? cells[b] : LAST_DAY + 1;
        }

        void setDeadFrom(int b, int d) {
            if (b >= 0 && b < MOST_BOUGHS) {
                cells[b] = d;
            }
        }

        boolean isGone(int b) {
            return b >= 0 && b < MOST_BOUGHS && (gone >> b & 1) == 1;
        }

        int stack(int i) {
            return i >= 0 && i < MOST_TENANTS ? cells[STACKS + i] : 0;
        }

        int reach(int i) {
            return i >= 0 && i < MOST_TENANTS ? cells[REACHES + i] : 0;
        }

        void setReach(int i, int r) {
            if (i >= 0 && i < MOST_TENANTS) {
                cells[REACHES + i] = r;
            }
        }

        int carried(int i) {
            return i >= 0 && i < MOST_TENANTS ? cells[CARRIED + i] : 0;
        }

        void pick(int i, int b, int weight) {
            if (i >= 0 && i < MOST_TENANTS && b >= 0 && b < MOST_BOUGHS) {
                gone |= 1 << b;
                cells[STACKS + i] += weight;
                cells[CARRIED + i] += weight;
            }
        }

        void loseStack(int i) {
            if (i >= 0 && i < MOST_TENANTS) {
                cells[STACKS + i] = 0;
            }
        }

        void goBy(int days) {
            day += days;
            for (int i = 0; i < MOST_TENANTS; i++) {
                cells[CARRIED + i] = 0;
            }
        }
    }

    /** States one behind the other; when there is no room for one more, the oldest goes. */
    private static final class Pile {
        private final State[] states;
        int many;

        Pile(int most) {
            states = new State[Math.max(0, most)];
            for (int k = 0; k < states.length; k++) {
                states[k] = new State();
            }
        }

        boolean isFull() {
            return many >= states.length;
        }

        void clear() {
            many = 0;
        }

        void add(State state) {
            if (isFull()) {
                dropOldest();
            }
            if (many >= 0 && many < states.length && states[many] != null) {
                states[many].become(state);
                many++;
            }
        }

        void moveLastTo(State state) {
            if (many > 0 && many <= states.length) {
                many--;
                state.become(states[many]);
            }
        }

        private void dropOldest() {
            if (many > 0 && many <= states.length) {
                State oldest = states[0];
                for (int k = 1; k < many; k++) {
                    states[k - 1] = states[k];
                }
                many--;
                states[many] = oldest;
            }
        }
    }

    /** What a LAID TEXT tells and no day changes, and what that makes of a state. */
    private static final class Forest {
        private static final int ASH = 0, HIDDEN = 2, DRIFT = 3;
        private static final int HIDDEN_FURTHER = 3;

        private final int[] kinds = new int[MOST_BOUGHS];
        private final int[] heights = new int[MOST_BOUGHS];
        private final int[] weights = new int[MOST_BOUGHS];
        private final int[] strengths = new int[MOST_TENANTS];
        private final int[] hearths = new int[MOST_TENANTS];
        int boughs;
        int tenants;
        int longest;
        int round;
        int falls;

        /** Reads a TEXT without FAULT; the state is that of its DAY 0. */
        void read(Text text, State state) {
            boughs = 0;
            tenants = 0;
            longest = 20;
            round = 3;
            falls = 10;
            state.clear();
            int place = 0;
            for (int k = 0; k < Text.MOST_LETTERS && place >= 0 && place < text.length; k++) {
                int next = text.readItem(place);
                put(text.letter(place), text, state);
                place = next;
            }
        }

        private void put(char item, Text text, State state) {
            if (item == 'b') {
                putBough(text, state);
            } else if (item == 't') {
                putTenant(text, state);
            } else if (item == 'k') {
                longest = text.number(0);
                round = text.number(1);
            } else if (item == 'f') {
                falls = text.number(0);
            }
        }

        private void putBough(Text text, State state) {
            if (boughs >= 0 && boughs < MOST_BOUGHS) {
                kinds[boughs] = text.number(0);
                heights[boughs] = text.number(1);
                weights[boughs] = text.number(2);
                state.setDeadFrom(boughs, text.number(3));
                boughs++;
            }
        }

        private void putTenant(Text text, State state) {
            if (tenants >= 0 && tenants < MOST_TENANTS) {
                state.setReach(tenants, text.number(0));
                strengths[tenants] = text.number(1);
                hearths[tenants] = text.number(2);
                tenants++;
            }
        }

        boolean hasBough(int b) {
            return b >= 0 && b < boughs && b < MOST_BOUGHS;
        }

        boolean hasTenant(int i) {
            return i >= 0 && i < tenants && i < MOST_TENANTS;
        }

        int kind(int b) {
            return b >= 0 && b < kinds.length ? kinds[b] : ASH;
        }

        int height(int b) {
            return b >= 0 && b < heights.length ? heights[b] : 0;
        }

        int weight(int b) {
            return b >= 0 && b < weights.length ? weights[b] : 0;
        }

        int strength(int i) {
            return i >= 0 && i < strengths.length ? strengths[i] : 0;
        }

        int hearth(int i) {
            return i >= 0 && i < hearths.length ? hearths[i] : 0;
        }

        int weightOf(int set) {
            int all = 0;
            for (int b = 0; b < boughs; b++) {
                if ((set >> b & 1) == 1) {
                    all += weight(b);
                }
            }
            return all;
        }

        boolean isDead(State state, int b, int d) {
            return d >= state.deadFrom(b);
        }

        boolean hasFallen(State state, int b, int d) {
            return d >= state.deadFrom(b) + falls;
        }

        private boolean isInReach(State state, int i, int b) {
            switch (kind(b)) {
                case ASH: return height(b) <= state.reach(i);
                case HIDDEN: return height(b) + HIDDEN_FURTHER <= state.reach(i);
                case DRIFT: return true;
                // An OAK one is not to be had by any hook.
                default: return false;
            }
        }

        /** Whether he could have it on a DAY, were it not gone. */
        boolean couldTake(State state, int i, int b, int d, int carried) {
            return isDead(state, b, d)
                && carried + weight(b) <= strength(i)
                && (hasFallen(state, b, d) || isInReach(state, i, b));
        }

        boolean canTake(State state, int i, int b) {
            return !state.isGone(b) && couldTake(state, i, b, state.day, state.carried(i));
        }

        boolean isCaught(State state, int i, int b) {
            return round > 0 && state.day % round == 0
                && state.reach(i) > longest
                && kind(b) != DRIFT && !hasFallen(state, b, state.day);
        }

        boolean isWarm(State state, int i) {
            return state.stack(i) >= hearth(i);
        }

        int warmOnes(State state) {
            int ones = 0;
            for (int i = 0; i < tenants; i++) {
                if (isWarm(state, i)) {
                    ones |= 1 << i;
                }
            }
            return ones;
        }

        boolean areAllWarm(State state) {
            return warmOnes(state) == (1 << tenants) - 1;
        }

        int firstDayFor(State state, int i, int b) {
            if (state.isGone(b)) {
                return NONE;
            }
            for (int d = state.day; d <= LAST_DAY; d++) {
                if (couldTake(state, i, b, d, 0)) {
                    return d;
                }
            }
            return NONE;
        }

        boolean nobodyEverTakes(State state, int b) {
            for (int i = 0; i < tenants; i++) {
                if (firstDayFor(state, i, b) != NONE) {
                    return false;
                }
            }
            return true;
        }
    }

    /** How it goes from a state on, EACH FOR HIMSELF, on a copy of that state. */
    private static final class Course {
        private final Forest forest;
        final State state = new State();

        Course(Forest forest) {
            this.forest = forest;
        }

        void begin(State from) {
            state.become(from);
        }

        void shortenHooks(int longest) {
            for (int i = 0; i < forest.tenants; i++) {
                state.setReach(i, Math.min(state.reach(i), longest));
            }
        }

        /** To the end of a DAY; none of the DAYS is gone through on which nobody would take anything any more. */
        void goTo(int d) {
            for (int k = 0; k <= LAST_DAY && !isOver(); k++) {
                gatherToday();
                if (state.day >= d) {
                    return;
                }
                state.goBy(1);
            }
        }

        private boolean isOver() {
            return state.gone == (1 << forest.boughs) - 1 || forest.areAllWarm(state);
        }

        int firstDayAllWarm() {
            for (int k = 0; k <= LAST_DAY; k++) {
                gatherToday();
                if (forest.areAllWarm(state)) {
                    return state.day;
                }
                if (state.day >= LAST_DAY) {
                    return NONE;
                }
                state.goBy(1);
            }
            return NONE;
        }

        void goThroughStorm(int z, int days) {
            for (int over = 0; over < days; over++) {
                if (over > 0) {
                    state.goBy(1);
                }
                blow(draw(z, over));
                gatherToday();
            }
        }

        private static int draw(int z, int over) {
            long x = 7919L * z + 6151L * over + 1;
            return (int) (x * x % 65521 / 2);
        }

        private void blow(int draw) {
            if (draw / 8 % 3 == 0 && forest.boughs > 0) {
                int b = draw % forest.boughs;
                // One that died so long ago has fallen by now.
                state.setDeadFrom(b, Math.min(state.deadFrom(b), state.day - forest.falls));
            }
        }

        private void gatherToday() {
            for (int i = 0; i < forest.tenants; i++) {
                // What he has had to leave he can not carry later that day either: once over them is enough.
                for (int b = 0; b < forest.boughs && !forest.isWarm(state, i); b++) {
                    if (forest.canTake(state, i, b)) {
                        state.pick(i, b, forest.weight(b));
                    }
                }
            }
        }
    }

    /** SHARE: who has which BOUGH by the best way of today. */
    private static final class Dealing {
        private final Forest forest;
        private final int[] takers = new int[MOST_BOUGHS];
        private final int[] rest = new int[MOST_BOUGHS + 1];
        private final int[] free = new int[MOST_TENANTS];
        private final int[] owners = new int[MOST_BOUGHS];
        private final int[] bestOwners = new int[MOST_BOUGHS];
        int most;

        Dealing(Forest forest) {
            this.forest = forest;
        }

        int whoHas(int b) {
            return b >= 0 && b < bestOwners.length ? bestOwners[b] : NONE;
        }

        void find(State state) {
            int freeOfAll = 0;
            for (int i = 0; i < MOST_TENANTS; i++) {
                free[i] = forest.hasTenant(i) ? forest.strength(i) - state.carried(i) : 0;
                freeOfAll += free[i];
            }
            rest[MOST_BOUGHS] = 0;
            for (int b = MOST_BOUGHS - 1; b >= 0; b--) {
                takers[b] = forest.hasBough(b) ? takersOf(state, b) : 0;
                rest[b] = rest[b + 1] + (takers[b] == 0 ? 0 : forest.weight(b));
            }
            most = -1;
            deal(this, 0, 0, freeOfAll);
        }

        private int takersOf(State state, int b) {
            int ones = 0;
            for (int i = 0; i < forest.tenants; i++) {
                if (forest.canTake(state, i, b)) {
                    ones |= 1 << i;
                }
            }
            return ones;
        }

        /** Goes through the ways in their order, so that of several best ones the first is found first. */
        private static void deal(Dealing ways, int b, int had, int freeOfAll) {
            if (b < 0 || b >= MOST_BOUGHS) {
                ways.keepIfBetter(had);
                return;
            }
            if (had + Math.min(ways.rest[b], freeOfAll) <= ways.most) {
                return;
            }
            int weight = ways.forest.weight(b);
            for (int i = 0; i < MOST_TENANTS; i++) {
                if ((ways.takers[b] >> i & 1) == 1 && weight <= ways.free[i]) {
                    ways.free[i] -= weight;
                    ways.owners[b] = i;
                    deal(ways, b + 1, had + weight, freeOfAll - weight);
                    ways.free[i] += weight;
                }
            }
            ways.owners[b] = NONE;
            deal(ways, b + 1, had, freeOfAll);
        }

        private void keepIfBetter(int had) {
            if (had > most) {
                most = had;
                System.arraycopy(owners, 0, bestOwners, 0, MOST_BOUGHS);
            }
        }
    }
}

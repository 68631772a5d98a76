public final class BoiledEggs {
    public static final int NONE = -1, UNKNOWN = -101, OUTSIDE = -102, STATE = -103, FULL = -104;

    private static final int MOST_LETTERS = 14;
    private static final int LEAST_EGGS = 2;
    private static final int MOST_EGGS = 6;
    // Of 6 eggs 3 can be boiled in 20 ways, and no other kitchen has more boxes.
    private static final int MOST_BOXES = 20;
    private static final int MOST_HABIT = 4;
    private static final int TENTHS = 10;
    private static final int MOST_SPINS = 8;
    private static final int MOST_SPINS_MORE = 5;
    private static final int MOST_TRIERS = 4;
    private static final int KINDS = 5;
    private static final int MOST_BREAKINGS = 60;
    private static final int MOST_MORNINGS = 40;
    private static final int FELL = 2;

    private final Page page = new Page();
    private final Kitchen home = new Kitchen();
    private final Told told = new Told();
    private final Told kept = new Told();
    private final Breaking breaking = new Breaking();
    private final Draws draws = new Draws();
    private final Trier[] triers = new Trier[MOST_TRIERS];
    private int trierCount;
    private int keptTriers;
    private boolean isKept;
    private int kitchensRead;
    private int breakingsDone;

    public BoiledEggs() {
    }

    // ---- the kitchen

    public int letter(int code) {
        if (code < 32 || code > 126) return OUTSIDE;
        if (page.isFull()) return FULL;
        return page.append(code);
    }

    public int blank() {
        return page.clear();
    }

    public int fault() {
        return page.firstFault();
    }

    public int kitchen() {
        if (!page.isWholeKitchen()) return STATE;
        home.readFrom(page);
        page.clear();
        told.begin(home);
        trierCount = 0;
        isKept = false;
        kitchensRead++;
        return home.eggs;
    }

    public int egg(int egg, int what) {
        if (!isEgg(egg)) return UNKNOWN;
        switch (what) {
            case 0: return home.habits[egg];
            case 1: return told.isInBox(egg) ? 1 : 0;
            case 2: return told.spins[egg];
            case 3: return told.turned[egg];
            case 4: return told.known[egg];
            default: return OUTSIDE;
        }
    }

    // ---- what is told

    public int spin(int egg, boolean turned) {
        if (!isEgg(egg)) return UNKNOWN;
        int ifBoiled = home.tenthsOf(true, turned);
        int ifRaw = home.tenthsOf(false, turned);
        if (!told.isInBox(egg) || !told.canBe(egg, ifBoiled, ifRaw)) return STATE;
        if (told.allSpins >= MOST_SPINS) return FULL;
        told.weigh(egg, ifBoiled, ifRaw);
        told.countSpin(egg, turned);
        return told.allSpins;
    }

    public int stop(int egg, int what) {
        if (!isEgg(egg)) return UNKNOWN;
        if (what < 0 || what > FELL) return OUTSIDE;
        if (!told.isInBox(egg)) return STATE;
        if (what == FELL) {
            if (home.falls == 0) return STATE;
            told.takeOut(egg);
        } else {
            if (!told.canBeSure(egg, what == 1)) return STATE;
            told.makeSure(egg, what == 1);
        }
        return told.howManyInBox();
    }

    public int crack(int egg, boolean boiled) {
        if (!isEgg(egg)) return UNKNOWN;
        if (!told.isInBox(egg) || !told.canBeSure(egg, boiled)) return STATE;
        told.makeSure(egg, boiled);
        told.takeOut(egg);
        return told.howManyInBox();
    }

    // ---- how likely

    public long likely(int egg, int part) {
        if (!isEgg(egg)) return UNKNOWN;
        if (!isPart(part)) return OUTSIDE;
        return inLowestTerms(told.boiledWeight(egg), told.allWeight(), part);
    }

    public int likeliest() {
        if (!hasKitchen()) return STATE;
        return told.heaviestBox();
    }

    public int turning(int egg, int tenths) {
        if (!isEgg(egg)) return UNKNOWN;
        if (tenths < 1 || tenths >= TENTHS) return OUTSIDE;
        long boiled = told.boiledWeight(egg);
        long raw = told.allWeight() - boiled;
        for (int more = 0; more <= MOST_SPINS_MORE; more++) {
            long all = boiled + raw;
            if (all > 0 && boiled * TENTHS >= all * tenths) return more;
            boiled *= home.turnsBoiled;
            raw *= home.turnsRaw;
        }
        return NONE;
    }

    public int worst(int raw, int what) {
        if (!isRawNumber(raw) || what < 0 || what > 1) return OUTSIDE;
        if (!mayBreak()) return STATE;
        breakingsDone++;
        if (!told.hasRawInBox(raw)) return NONE;
        breaking.solve(told, raw);
        return what == 0 ? breaking.fewestAtWorst() : told.eggAtPlace(breaking.firstPlace());
    }

    public long mean(int raw, int part) {
        if (!isRawNumber(raw) || !isPart(part)) return OUTSIDE;
        if (!mayBreak()) return STATE;
        breakingsDone++;
        if (!told.hasRawInBox(raw)) return part == 0 ? NONE : 0;
        breaking.solve(told, raw);
        return inLowestTerms(breaking.fewestByWeight(), told.allWeight(), part);
    }

    public long risk(int egg, int part) {
        if (!isEgg(egg)) return UNKNOWN;
        if (!isPart(part)) return OUTSIDE;
        if (!told.isInBox(egg)) return STATE;
        long all = told.allWeight();
        long raw = all - told.boiledWeight(egg);
        return inLowestTerms(raw * home.falls, all * TENTHS, part);
    }

    // ---- triers

    public int trier(int kind) {
        if (!isKind(kind)) return OUTSIDE;
        if (!hasKitchen()) return STATE;
        if (trierCount >= MOST_TRIERS) return FULL;
        triers[trierCount] = newTrier(kind);
        return trierCount++;
    }

    public int about(int trier, int what) {
        Trier who = trierOf(trier);
        if (who == null) return UNKNOWN;
        if (what < 0 || what > 1) return OUTSIDE;
        return what == 0 ? who.kind() : who.nextEgg(told);
    }

    public int as(int trier, int kind) {
        Trier who = trierOf(trier);
        if (who == null) return UNKNOWN;
        if (!isKind(kind)) return OUTSIDE;
        return isOfKind(who, kind) ? trier : NONE;
    }

    // ---- told back

    public int fits(int what) {
        if (what < 0 || what > 2) return OUTSIDE;
        if (!hasKitchen()) return STATE;
        if (what == 0) return told.fitting;
        return what == 1 ? told.surelyBoiled(home.allEggs()) : told.surelyRaw(home.allEggs());
    }

    public int mornings(int times, int seed, int what) {
        if (times < 1 || times > MOST_MORNINGS || seed < 0 || what < 0 || what > 1) return OUTSIDE;
        if (!hasKitchen()) return STATE;
        draws.startFrom(seed);
        int asMeant = 0;
        for (int time = 0; time < times; time++) {
            int box = told.fittingBox(draws.next(told.fitting));
            asMeant += eggsAsMeant(box);
        }
        return what == 0 ? asMeant : (int) draws.seed;
    }

    // ---- what is told of all

    public int image() {
        if (!hasKitchen()) return STATE;
        kept.copyFrom(told);
        keptTriers = trierCount;
        isKept = true;
        return told.howManyInBox();
    }

    public int restore() {
        if (!isKept) return STATE;
        told.copyFrom(kept);
        trierCount = keptTriers;
        return told.howManyInBox();
    }

    public int count(int what) {
        switch (what) {
            case 0: return home.eggs;
            case 1: return home.boiled;
            case 2: return home.turnsBoiled;
            case 3: return home.turnsRaw;
            case 4: return home.falls;
            case 5: return told.howManyInBox();
            case 6: return told.allSpins;
            case 7: return trierCount;
            case 8: return page.size;
            case 9: return kitchensRead;
            case 10: return breakingsDone;
            default: return OUTSIDE;
        }
    }

    public long digest() {
        long hash = 787;
        for (int egg = 0; egg < home.eggs; egg++) hash = withEgg(hash, egg);
        for (int number = 0; number < trierCount; number++) {
            for (int what = 0; what <= 1; what++) hash = with(hash, about(number, what));
        }
        if (hasKitchen()) {
            hash = with(hash, likeliest());
            for (int what = 0; what <= 2; what++) hash = with(hash, fits(what));
        }
        for (int place = 0; place < page.size; place++) hash = with(hash, page.codes[place]);
        for (int what = 0; what <= 10; what++) hash = with(hash, count(what));
        return hash;
    }

    // ---- what the calls share

    private boolean hasKitchen() {
        return home.eggs > 0;
    }

    private boolean isEgg(int egg) {
        return egg >= 0 && egg < home.eggs;
    }

    private boolean mayBreak() {
        return hasKitchen() && breakingsDone < MOST_BREAKINGS;
    }

    private Trier trierOf(int number) {
        return number >= 0 && number < trierCount ? triers[number] : null;
    }

    private int eggsAsMeant(int box) {
        int asMeant = 0;
        for (int egg = 0; egg < home.eggs; egg++) {
            boolean boiled = has(box, egg);
            boolean turns = draws.next(TENTHS) < home.tenthsOf(boiled, true);
            if (turns == boiled) asMeant++;
        }
        return asMeant;
    }

    private long withEgg(long hash, int egg) {
        long longer = hash;
        for (int what = 0; what <= 4; what++) longer = with(longer, egg(egg, what));
        for (int part = 0; part <= 1; part++) longer = with(longer, likely(egg, part));
        return longer;
    }

    private static long with(long hash, long number) {
        return 31 * hash + number;
    }

    private static boolean isPart(int part) {
        return part == 0 || part == 1;
    }

    private static boolean isRawNumber(int raw) {
        return raw >= 1 && raw <= MOST_EGGS;
    }

    private static boolean isKind(int kind) {
        return kind >= 0 && kind < KINDS;
    }

    private static boolean has(int bits, int egg) {
        return (bits >> egg & 1) == 1;
    }

    private static long inLowestTerms(long above, long below, int part) {
        long divisor = commonDivisor(above, below);
        long asked = part == 0 ? above : below;
        return divisor == 0 ? asked : asked / divisor;
    }

    private static long commonDivisor(long one, long other) {
        long larger = one;
        long smaller = other;
        // Two longs need fewer than 100 steps.
        for (int step = 0; step < 100 && smaller != 0; step++) {
            long rest = larger % smaller;
            larger = smaller;
            smaller = rest;
        }
        return larger;
    }

    private static Trier newTrier(int kind) {
        switch (kind) {
            case 1: return new Doubter();
            case 2: return new Bold();
            case 3: return new Hungry();
            case 4: return new Greedy();
            default: return new Trier();
        }
    }

    private static boolean isOfKind(Trier who, int kind) {
        switch (kind) {
            case 1: return who instanceof Doubter;
            case 2: return who instanceof Bold;
            case 3: return who instanceof Hungry;
            case 4: return who instanceof Greedy;
            default: return true;
        }
    }

    /** The letters from which a kitchen is read. */
    private static final class Page {
        private static final int HEAD = 7;

        private final int[] codes = new int[MOST_LETTERS];
        private int size;

        boolean isFull() {
            return size >= MOST_LETTERS;
        }

        int append(int code) {
            if (!isFull()) codes[size++] = code;
            return size;
        }

        int clear() {
            int had = size;
            size = 0;
            return had;
        }

        int firstFault() {
            for (int place = 0; place < size; place++) {
                if (!suits(place)) return place;
            }
            return size;
        }

        boolean isWholeKitchen() {
            return size > HEAD && size == HEAD + digit(0) && firstFault() == size;
        }

        int digit(int place) {
            return place >= 0 && place < size ? codes[place] - '0' : NONE;
        }

        // Asked only where all letters ahead suit, so that the digit EGGS can be relied on.
        private boolean suits(int place) {
            switch (place) {
                case 0: return isDigit(place, LEAST_EGGS, MOST_EGGS);
                case 1: return isDigit(place, 0, digit(0));
                case 2: return codes[place] == ':';
                case 3:
                case 4:
                case 5: return isDigit(place, 0, 9);
                case 6: return codes[place] == ';';
                default: return place < HEAD + digit(0) && isDigit(place, 1, MOST_HABIT);
            }
        }

        private boolean isDigit(int place, int least, int most) {
            int digit = digit(place);
            return digit >= least && digit <= most;
        }
    }

    /** What THE KITCHEN's text says; without a KITCHEN all is 0. */
    private static final class Kitchen {
        private final int[] habits = new int[MOST_EGGS];
        private int eggs;
        private int boiled;
        private int turnsBoiled;
        private int turnsRaw;
        private int falls;

        void readFrom(Page page) {
            eggs = Math.min(page.digit(0), MOST_EGGS);
            boiled = page.digit(1);
            turnsBoiled = page.digit(3);
            turnsRaw = page.digit(4);
            falls = page.digit(5);
            for (int egg = 0; egg < eggs; egg++) habits[egg] = page.digit(Page.HEAD + egg);
        }

        int allEggs() {
            return (1 << eggs) - 1;
        }

        int tenthsOf(boolean isBoiled, boolean turned) {
            int turns = isBoiled ? turnsBoiled : turnsRaw;
            return turned ? turns : TENTHS - turns;
        }

        long habitsOf(int box) {
            long product = 1;
            for (int egg = 0; egg < eggs; egg++) {
                if (has(box, egg)) product *= habits[egg];
            }
            return product;
        }
    }

    /** All that is told, as the BOXES that still have WEIGHT (the least bits first) and the EGGS in the box. */
    private static final class Told {
        private final int[] boxes = new int[MOST_BOXES];
        private final long[] weights = new long[MOST_BOXES];
        private final int[] spins = new int[MOST_EGGS];
        private final int[] turned = new int[MOST_EGGS];
        private final int[] known = new int[MOST_EGGS];
        private int fitting;
        private int inBox;
        private int allSpins;

        void begin(Kitchen kitchen) {
            fitting = 0;
            int all = kitchen.allEggs();
            for (int box = 0; box <= all; box++) {
                if (Integer.bitCount(box) == kitchen.boiled) keep(box, kitchen.habitsOf(box));
            }
            for (int egg = 0; egg < MOST_EGGS; egg++) {
                spins[egg] = 0;
                turned[egg] = 0;
                known[egg] = NONE;
            }
            inBox = all;
            allSpins = 0;
        }

        void copyFrom(Told other) {
            System.arraycopy(other.boxes, 0, boxes, 0, MOST_BOXES);
            System.arraycopy(other.weights, 0, weights, 0, MOST_BOXES);
            System.arraycopy(other.spins, 0, spins, 0, MOST_EGGS);
            System.arraycopy(other.turned, 0, turned, 0, MOST_EGGS);
            System.arraycopy(other.known, 0, known, 0, MOST_EGGS);
            fitting = other.fitting;
            inBox = other.inBox;
            allSpins = other.allSpins;
        }

        private void keep(int box, long weight) {
            if (weight > 0 && fitting < MOST_BOXES) {
                boxes[fitting] = box;
                weights[fitting] = weight;
                fitting++;
            }
        }

        boolean canBe(int egg, int ifBoiled, int ifRaw) {
            long boiled = boiledWeight(egg);
            return boiled * ifBoiled + (allWeight() - boiled) * ifRaw > 0;
        }

        boolean canBeSure(int egg, boolean boiled) {
            return canBe(egg, boiled ? 1 : 0, boiled ? 0 : 1);
        }

        void weigh(int egg, int ifBoiled, int ifRaw) {
            int before = fitting;
            fitting = 0;
            for (int i = 0; i < before; i++) {
                keep(boxes[i], weights[i] * (has(boxes[i], egg) ? ifBoiled : ifRaw));
            }
        }

        void countSpin(int egg, boolean itTurned) {
            spins[egg]++;
            if (itTurned) turned[egg]++;
            allSpins++;
        }

        void makeSure(int egg, boolean boiled) {
            weigh(egg, boiled ? 1 : 0, boiled ? 0 : 1);
            known[egg] = boiled ? 1 : 0;
        }

        void takeOut(int egg) {
            inBox &= ~(1 << egg);
        }

        boolean isInBox(int egg) {
            return has(inBox, egg);
        }

        int howManyInBox() {
            return Integer.bitCount(inBox);
        }

        int eggAtPlace(int place) {
            int ahead = 0;
            for (int egg = 0; egg < MOST_EGGS; egg++) {
                if (isInBox(egg)) {
                    if (ahead == place) return egg;
                    ahead++;
                }
            }
            return NONE;
        }

        long allWeight() {
            long sum = 0;
            for (int i = 0; i < fitting; i++) sum += weights[i];
            return sum;
        }

        long boiledWeight(int egg) {
            long sum = 0;
            for (int i = 0; i < fitting; i++) {
                if (has(boxes[i], egg)) sum += weights[i];
            }
            return sum;
        }

        int fittingBox(int number) {
            return number >= 0 && number < fitting ? boxes[number] : 0;
        }

        int heaviestBox() {
            int best = 0;
            for (int i = 1; i < fitting; i++) {
                if (weights[i] > weights[best]) best = i;
            }
            return boxes[best];
        }

        int surelyBoiled(int allEggs) {
            int bits = allEggs;
            for (int i = 0; i < fitting; i++) bits &= boxes[i];
            return bits;
        }

        int surelyRaw(int allEggs) {
            int bits = allEggs;
            for (int i = 0; i < fitting; i++) bits &= ~boxes[i];
            return bits;
        }

        boolean hasRawInBox(int raw) {
            for (int i = 0; i < fitting; i++) {
                if (Integer.bitCount(inBox & ~boxes[i]) < raw) return false;
            }
            return true;
        }
    }

    /**
     * The best way to break EGGS. A state tells for each EGG in the box (its place among them is the place
     * of a digit to the base 3) whether it is whole (0), was raw (1) or was boiled (2). What comes behind a
     * state is a larger number, so that the states are solved from the last down to 0.
     */
    private static final class Breaking {
        private static final int MOST_STATES = 729;
        private static final int WHOLE = 0, RAW = 1, BOILED = 2, BASE = 3;

        private final long[] weights = new long[MOST_STATES];
        private final long[] costs = new long[MOST_STATES];
        private final int[] worsts = new int[MOST_STATES];
        private int places;
        private int needed;
        private int bestPlace;

        void solve(Told told, int raw) {
            needed = raw;
            places = told.howManyInBox();
            int states = 1;
            for (int place = 0; place < places; place++) states *= BASE;
            spread(told, states);
            for (int state = states - 1; state >= 0; state--) solveState(state);
        }

        int fewestAtWorst() {
            return worsts[0];
        }

        long fewestByWeight() {
            return costs[0];
        }

        // State 0 is solved last, so that the best place of all is its own.
        int firstPlace() {
            return bestPlace;
        }

        private void spread(Told told, int states) {
            for (int state = 0; state < states; state++) weights[state] = 0;
            for (int i = 0; i < told.fitting; i++) {
                weights[lastState(told, told.boxes[i])] += told.weights[i];
            }
        }

        private int lastState(Told told, int box) {
            int state = 0;
            int step = 1;
            for (int egg = 0; egg < MOST_EGGS; egg++) {
                if (told.isInBox(egg)) {
                    state += step * (has(box, egg) ? BOILED : RAW);
                    step *= BASE;
                }
            }
            return state;
        }

        private void solveState(int state) {
            int had = 0;
            int wholeStep = 0;
            int step = 1;
            int rest = state;
            for (int place = 0; place < places; place++) {
                int digit = rest % BASE;
                if (digit == RAW) had++;
                if (digit == WHOLE) wholeStep = step;
                rest /= BASE;
                step *= BASE;
            }
            costs[state] = 0;
            worsts[state] = 0;
            if (wholeStep == 0) return;
            weights[state] = weights[state + RAW * wholeStep] + weights[state + BOILED * wholeStep];
            if (weights[state] > 0 && had < needed) breakNext(state);
        }

        private void breakNext(int state) {
            long leastCost = Long.MAX_VALUE;
            int leastWorst = Integer.MAX_VALUE;
            int step = 1;
            int rest = state;
            for (int place = 0; place < places; place++) {
                if (rest % BASE == WHOLE) {
                    int ifRaw = state + RAW * step;
                    int ifBoiled = state + BOILED * step;
                    long cost = costs[ifRaw] + costs[ifBoiled];
                    if (cost < leastCost) {
                        leastCost = cost;
                        bestPlace = place;
                    }
                    leastWorst = Math.min(leastWorst, Math.max(worsts[ifRaw], worsts[ifBoiled]));
                }
                rest /= BASE;
                step *= BASE;
            }
            costs[state] = weights[state] + leastCost;
            worsts[state] = 1 + leastWorst;
        }
    }

    /** DRAWS by a SEED. */
    private static final class Draws {
        private long seed;

        void startFrom(int first) {
            seed = first;
        }

        int next(int below) {
            seed = (1103515245L * seed + 12345L) % 2147483648L;
            return below > 0 ? (int) (seed / 65536 % below) : 0;
        }
    }

    /** A TRIER takes of the EGGS in the box that of the least score, the first of like ones. */
    private static class Trier {
        int kind() {
            return 0;
        }

        long score(Told told, int egg) {
            return 0;
        }

        boolean takesLast() {
            return false;
        }

        final int nextEgg(Told told) {
            int best = NONE;
            long bestScore = 0;
            for (int egg = 0; egg < MOST_EGGS; egg++) {
                if (told.isInBox(egg)) {
                    long score = score(told, egg);
                    boolean isLike = score == bestScore && takesLast();
                    if (best == NONE || score < bestScore || isLike) {
                        best = egg;
                        bestScore = score;
                    }
                }
            }
            return best;
        }
    }

    private static final class Doubter extends Trier {
        int kind() {
            return 1;
        }

        long score(Told told, int egg) {
            return Math.abs(2 * told.boiledWeight(egg) - told.allWeight());
        }
    }

    private static final class Bold extends Trier {
        int kind() {
            return 2;
        }

        long score(Told told, int egg) {
            return told.boiledWeight(egg);
        }
    }

    private static class Hungry extends Trier {
        int kind() {
            return 3;
        }

        long score(Told told, int egg) {
            return -told.boiledWeight(egg);
        }
    }

    private static final class Greedy extends Hungry {
        int kind() {
            return 4;
        }

        boolean takesLast() {
            return true;
        }
    }
}

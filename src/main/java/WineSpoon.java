/** Glasses of wine and water and a spoon that goes to and fro; the document's promises are told in DOC.md. */
public final class WineSpoon {
    public static final int NONE = -1;

    private static final int BAD_NUMBER = -1;
    private static final int NO_SUCH = -2;
    private static final int CANNOT_BE = -3;
    private static final int NO_ROOM = -5;
    private static final int BAD_TEXT = -6;
    private static final int REFUSALS = 5;

    private static final int MOST_GLASSES = 6;
    private static final int MOST_AMOUNT = 60;
    private static final int STUFFS = 4;
    private static final long MOST_LOWER = 100_000_000_000_000L;

    private static final int MOST_SPOONS = 3;
    private static final int MOST_TASTINGS = 6;
    private static final int MOST_WINES = 6;
    private static final int TRIPLE = 3;
    private static final int MOST_MOVES = 3;
    private static final int SEARCHED_GLASSES = 3;

    private static final int MOST_BYTES = 400;
    private static final int BYTES_FED = 20;
    private static final int MOST_CLAUSES = 12;
    private static final int MOST_PARTS = 50;
    private static final int MOST_BRACKETS = 8;
    private static final int MOST_TIMES = 20;
    private static final int MOST_NUMBER = 1000;
    private static final long MOST_VALUE = 1_000_000_000L;
    private static final long BROKEN = MOST_VALUE + 1;

    private static final int MOST_ROUNDS = 6;
    private static final int HUNDRED = 100;
    private static final int MOST_CLINGS = 9;
    private static final int MOST_GOES = 6;
    private static final int MOST_PRICE = 99;
    private static final int MOST_WINE = 20;
    private static final int MOST_CARDS = 20;
    private static final int MOST_SEED = 1_000_000;
    private static final int MOST_NIGHT = 20;
    private static final int IMAGES = 2;

    private static final int END = 0;
    private static final int WORD = 1;
    private static final int NUMBER = 2;
    private static final int SIGN = 3;

    private static final int SPOON = 0;
    private static final int LICK = 1;
    private static final int FILL = 2;

    private static final int NOTHING = 0;
    private static final int PUSH = 1;
    private static final int FULL = 2;
    private static final int SIZE = 3;
    private static final int TASTE = 4;
    private static final int DONE = 5;
    private static final int ADD = 6;
    private static final int SUBTRACT = 7;
    private static final int MULTIPLY = 8;
    private static final int DIVIDE = 9;
    private static final int LESS = 10;
    private static final int MORE = 11;
    private static final int SAME = 12;
    private static final int NOT = 13;
    private static final int AND = 14;
    private static final int OR = 15;

    private final State state = new State();
    private final State[] images = new State[IMAGES];
    private final boolean[] imageKept = new boolean[IMAGES];
    private final Parser parser = new Parser();
    private final Tape tape = parser.tape;
    private final Runner runner = new Runner();
    private final Search search = new Search();
    private final Mixer mixer = new Mixer();
    private final Table nightTable = new Table();
    private final int[] refusals = new int[REFUSALS];
    private int latestRefusal;
    private int spiltBytes;
    private int faultPlace = NONE;
    private int stoppedClause = NONE;

    public WineSpoon() {
        for (int k = 0; k < IMAGES; k++) {
            images[k] = new State();
        }
    }

    // ---- glasses

    public int glass(int size) {
        return answered(addGlass(size));
    }

    private int addGlass(int size) {
        if (!isAmount(size)) {
            return BAD_NUMBER;
        }
        return state.table.add(size);
    }

    public int of(int glass, int what) {
        if (what == 0 && state.table.has(glass)) {
            return state.table.sizeOf(glass);
        }
        if (what == 1 && state.table.has(glass)) {
            return state.table.fullOf(glass);
        }
        return NONE;
    }

    public long part(int glass, int stuff) {
        if (!state.table.has(glass) || !isStuff(stuff)) {
            return NONE;
        }
        return state.table.partOf(glass, stuff);
    }

    public long lower() {
        return state.table.lower;
    }

    public int taste(int glass, int stuff) {
        if (!state.table.has(glass) || !isStuff(stuff)) {
            return NONE;
        }
        return state.table.tasteOf(glass, stuff);
    }

    public int fill(int glass, int stuff, int amount) {
        return answered(fillGlass(glass, stuff, amount));
    }

    private int fillGlass(int glass, int stuff, int amount) {
        if (!isStuff(stuff) || !isAmount(amount)) {
            return BAD_NUMBER;
        }
        if (!state.table.has(glass)) {
            return NO_SUCH;
        }
        int refusal = state.table.pour(glass, stuff, amount);
        return refusal < 0 ? refusal : state.table.fullOf(glass);
    }

    public int spoon(int from, int to, int amount) {
        return answered(spoonGlass(from, to, amount));
    }

    private int spoonGlass(int from, int to, int amount) {
        if (!isAmount(amount)) {
            return BAD_NUMBER;
        }
        if (!state.table.has(from) || !state.table.has(to)) {
            return NO_SUCH;
        }
        int refusal = state.table.carry(from, to, amount);
        if (refusal < 0) {
            return refusal;
        }
        state.table.toLowestTerms();
        return state.table.fullOf(to);
    }

    public int lick(int from, int amount) {
        return answered(lickGlass(from, amount));
    }

    private int lickGlass(int from, int amount) {
        if (!isAmount(amount)) {
            return BAD_NUMBER;
        }
        if (!state.table.has(from)) {
            return NO_SUCH;
        }
        int refusal = state.table.takeOut(from, amount);
        if (refusal < 0) {
            return refusal;
        }
        state.table.toLowestTerms();
        return state.table.fullOf(from);
    }

    public int empty(int glass) {
        return answered(emptyGlass(glass));
    }

    private int emptyGlass(int glass) {
        if (!state.table.has(glass)) {
            return NO_SUCH;
        }
        int was = state.table.fullOf(glass);
        state.table.clear(glass);
        state.table.toLowestTerms();
        return was;
    }

    // ---- the tape, rows and evenings

    public int feed(int a, int b, int c, int d, int e) {
        if (tape.length + BYTES_FED > MOST_BYTES) {
            return NONE;
        }
        tape.append(a);
        tape.append(b);
        tape.append(c);
        tape.append(d);
        tape.append(e);
        return tape.length;
    }

    public int end(int n) {
        if (n < 0 || n > tape.length) {
            return NONE;
        }
        tape.length = n;
        return n;
    }

    public int row() {
        int answer = fillRow();
        tape.length = 0;
        return answered(answer);
    }

    private int fillRow() {
        if (tape.length <= 0 || !state.table.has(tape.bytes[0])) {
            return BAD_TEXT;
        }
        int filled = 0;
        for (int at = 1; at < tape.length; at++) {
            if (state.table.pour(tape.bytes[0], at - 1, tape.bytes[at]) == 0) {
                filled++;
            }
        }
        spiltBytes = tape.length - 1 - filled;
        return filled;
    }

    public int spilt() {
        return spiltBytes;
    }

    public int evening() {
        boolean reads = parser.readText();
        faultPlace = reads ? NONE : tape.place();
        tape.length = 0;
        stoppedClause = NONE;
        if (!reads) {
            return answered(BAD_TEXT);
        }
        int answer = runner.run(parser.script, state.table);
        if (answer < 0) {
            stoppedClause = runner.clause;
        }
        return answered(answer);
    }

    public int fault() {
        return faultPlace;
    }

    public int stopped() {
        return stoppedClause;
    }

    // ---- both glasses, rounds

    public int alike(int one, int other, int stuff) {
        if (!state.table.has(one) || !state.table.has(other) || !isStuff(stuff)) {
            return NONE;
        }
        return state.table.asStrong(one, other, stuff) ? 1 : 0;
    }

    public long both(int full, int spoon, int n, int what) {
        if (!isBoth(full, spoon) || !isWithin(n, 0, MOST_ROUNDS)) {
            return NONE;
        }
        return powerTerm(full - spoon, full + spoon, n, what);
    }

    public int rounds(int full, int spoon, int hundredths) {
        if (!isBoth(full, spoon) || !isWithin(hundredths, 0, HUNDRED)) {
            return NONE;
        }
        for (int n = 0; n <= MOST_ROUNDS; n++) {
            if (HUNDRED * power(full - spoon, n) <= hundredths * power(full + spoon, n)) {
                return n;
            }
        }
        return NONE;
    }

    private static boolean isBoth(int full, int spoon) {
        return isAmount(full) && isWithin(spoon, 1, full - 1);
    }

    // ---- spoons, tastings, and rows of moves by them

    public int size(int amount) {
        return answered(addSpoon(amount));
    }

    private int addSpoon(int amount) {
        if (!isAmount(amount)) {
            return BAD_NUMBER;
        }
        if (state.spoonCount >= MOST_SPOONS) {
            return NO_ROOM;
        }
        state.spoons[state.spoonCount] = amount;
        state.spoonCount++;
        return state.spoonCount - 1;
    }

    public int wash() {
        int were = state.spoonCount + state.tastingCount;
        state.spoonCount = 0;
        state.tastingCount = 0;
        return were;
    }

    public int reach(int glass, int stuff, int strength, int within, int i, int what) {
        if (!state.table.has(glass) || !isStuff(stuff)) {
            return NONE;
        }
        if (!isWithin(strength, 0, HUNDRED) || !isWithin(within, 0, HUNDRED)) {
            return NONE;
        }
        int moves = search.fewest(state, glass, stuff, strength, within);
        return i == NONE ? moves : search.ofFirst(moves, i, what);
    }

    public int tasting(int glass, int stuff, int taste) {
        return answered(addTasting(glass, stuff, taste));
    }

    private int addTasting(int glass, int stuff, int taste) {
        if (!isStuff(stuff) || !isWithin(taste, 0, HUNDRED)) {
            return BAD_NUMBER;
        }
        if (!state.table.has(glass)) {
            return NO_SUCH;
        }
        if (state.tastingCount >= MOST_TASTINGS) {
            return NO_ROOM;
        }
        putTriple(state.tastings, state.tastingCount, glass, stuff, taste);
        state.tastingCount++;
        return state.tastingCount;
    }

    public int fits(int n, int i, int what) {
        if (!isWithin(n, 0, MOST_MOVES)) {
            return NONE;
        }
        int rows = search.fitting(state, n);
        if (i == NONE) {
            return rows;
        }
        return rows == 0 ? NONE : search.ofFirst(n, i, what);
    }

    // ---- casks, rinsing

    public long cask(int size, int drawn, int n, int what) {
        if (!isCask(size, drawn) || !isWithin(n, 0, MOST_ROUNDS)) {
            return NONE;
        }
        return powerTerm(size - drawn, size, n, what);
    }

    public int guests(int size, int drawn, int hundredths) {
        if (!isCask(size, drawn) || !isWithin(hundredths, 0, HUNDRED)) {
            return NONE;
        }
        for (int n = 0; n <= MOST_ROUNDS; n++) {
            if (HUNDRED * power(size - drawn, n) < hundredths * power(size, n)) {
                return n;
            }
        }
        return NONE;
    }

    private static boolean isCask(int size, int drawn) {
        return isAmount(size) && isWithin(drawn, 0, size);
    }

    public long rinse(int clings, int water, int goes, int what) {
        if (!isWithin(clings, 1, MOST_CLINGS) || !isWithin(water, 0, MOST_AMOUNT)) {
            return NONE;
        }
        if (goes < 1 || goes > MOST_GOES || !isWithin(what, 0, 1 + goes)) {
            return NONE;
        }
        // the least is left if the goes are as even as can be
        int little = water / goes;
        int larger = water % goes;
        if (what >= 2) {
            return what - 2 < goes - larger ? little : little + 1;
        }
        long left = power(clings, goes);
        long all = power(clings + little, goes - larger) * power(clings + little + 1, larger);
        return lowestTerm(left, all, what);
    }

    // ---- wines

    public int wine(int strength, int price, int amount) {
        return answered(addWine(strength, price, amount));
    }

    private int addWine(int strength, int price, int amount) {
        if (!isWithin(strength, 0, HUNDRED) || !isWithin(price, 0, MOST_PRICE) || !isWithin(amount, 0, MOST_WINE)) {
            return BAD_NUMBER;
        }
        if (state.wineCount >= MOST_WINES) {
            return NO_ROOM;
        }
        putTriple(state.wines, state.wineCount, strength, price, amount);
        state.wineCount++;
        return state.wineCount - 1;
    }

    public int drink(int wine) {
        return answered(removeWine(wine));
    }

    private int removeWine(int wine) {
        if (wine < 0 || wine >= state.wineCount) {
            return NO_SUCH;
        }
        for (int at = TRIPLE * wine; at + TRIPLE < TRIPLE * state.wineCount; at++) {
            state.wines[at] = state.wines[at + TRIPLE];
        }
        state.wineCount--;
        return state.wineCount;
    }

    public int mix(int amount, int strength, int what) {
        if (!isWithin(amount, 1, MOST_WINE) || !isWithin(strength, 0, HUNDRED)) {
            return NONE;
        }
        if (what < 0 || what > state.wineCount) {
            return NONE;
        }
        int price = mixer.leastPrice(state, amount, strength);
        return what == 0 || price == NONE ? price : mixer.best[what - 1];
    }

    // ---- cards

    public long cards(int red, int black, int k, int j, int what) {
        if (!isWithin(red, 0, MOST_CARDS) || !isWithin(black, 0, MOST_CARDS)) {
            return NONE;
        }
        if (!isWithin(k, 0, red) || !isWithin(j, 0, k) || !isWithin(what, 0, 1)) {
            return NONE;
        }
        long moved = choices(red, k);
        if (what == 1) {
            return moved * choices(black + k, k);
        }
        // j black ones go back in place of the j red ones that stay
        return moved * choices(k, j) * choices(black, j);
    }

    // ---- nights

    public int night(int seed, int n) {
        return answered(passNight(seed, n));
    }

    private int passNight(int seed, int n) {
        if (!isWithin(seed, 0, MOST_SEED) || !isWithin(n, 1, MOST_NIGHT)) {
            return BAD_NUMBER;
        }
        nightTable.copyFrom(state.table);
        int glasses = nightTable.glasses;
        if (glasses <= 0 || state.spoonCount <= 0) {
            return 0;
        }
        int moves = 0;
        int drawnSeed = seed;
        for (int move = 0; move < n; move++) {
            drawnSeed = nextDraw(drawnSeed);
            int from = drawnSeed % glasses;
            drawnSeed = nextDraw(drawnSeed);
            int to = drawnSeed % glasses;
            drawnSeed = nextDraw(drawnSeed);
            int amount = state.spoons[drawnSeed % state.spoonCount];
            if (nightTable.carry(from, to, amount) == 0) {
                moves++;
            }
        }
        return moves;
    }

    private static int nextDraw(int seed) {
        return (int) ((seed * 1103L + 12345L) % 1_000_003L);
    }

    public int drawn(int glass, int stuff) {
        if (!nightTable.has(glass) || !isStuff(stuff)) {
            return NONE;
        }
        return nightTable.tasteOf(glass, stuff);
    }

    // ---- images

    public int image(int k) {
        return answered(keepImage(k));
    }

    private int keepImage(int k) {
        if (k < 0 || k >= IMAGES) {
            return BAD_NUMBER;
        }
        images[k].copyFrom(state);
        imageKept[k] = true;
        return 0;
    }

    public int back(int k) {
        return answered(goBack(k));
    }

    private int goBack(int k) {
        if (k < 0 || k >= IMAGES) {
            return BAD_NUMBER;
        }
        if (!imageKept[k]) {
            return NO_SUCH;
        }
        state.copyFrom(images[k]);
        return 0;
    }

    // ---- what stands

    public int count(int what) {
        switch (what) {
            case 0:
                return state.table.glasses;
            case 1:
                return state.spoonCount;
            case 2:
                return state.tastingCount;
            case 3:
                return state.wineCount;
            case 4:
                return tape.length;
            default:
                break;
        }
        if (what >= 5 && what < 5 + REFUSALS) {
            return refusals[what - 5];
        }
        if (what >= 10 && what < 10 + state.spoonCount) {
            return state.spoons[what - 10];
        }
        return NONE;
    }

    public int status() {
        return latestRefusal;
    }

    private int answered(int answer) {
        latestRefusal = Math.min(answer, 0);
        int which = refusalPlace(latestRefusal);
        if (which != NONE) {
            refusals[which]++;
        }
        return answer;
    }

    private static int refusalPlace(int refusal) {
        switch (refusal) {
            case BAD_NUMBER:
                return 0;
            case NO_SUCH:
                return 1;
            case CANNOT_BE:
                return 2;
            case NO_ROOM:
                return 3;
            case BAD_TEXT:
                return 4;
            default:
                return NONE;
        }
    }

    // ---- numbers

    private static boolean isWithin(int number, int least, int most) {
        return number >= least && number <= most;
    }

    private static boolean isAmount(int amount) {
        return isWithin(amount, 1, MOST_AMOUNT);
    }

    private static boolean isStuff(int stuff) {
        return isWithin(stuff, 0, STUFFS - 1);
    }

    private static void putTriple(int[] triples, int at, int first, int second, int third) {
        triples[TRIPLE * at] = first;
        triples[TRIPLE * at + 1] = second;
        triples[TRIPLE * at + 2] = third;
    }

    private static long power(long base, int exponent) {
        long result = 1;
        for (int i = 0; i < exponent; i++) {
            result *= base;
        }
        return result;
    }

    private static long powerTerm(int upper, int lower, int exponent, int what) {
        return lowestTerm(power(upper, exponent), power(lower, exponent), what);
    }

    private static long lowestTerm(long upper, long lower, int what) {
        long divisor = commonDivisor(upper, lower);
        if (divisor <= 0 || !isWithin(what, 0, 1)) {
            return NONE;
        }
        return what == 0 ? upper / divisor : lower / divisor;
    }

    private static long commonDivisor(long one, long other) {
        long a = one;
        long b = other;
        // Euclid needs fewer than a hundred steps for any two longs
        for (int step = 0; step < 200 && b != 0; step++) {
            long rest = a % b;
            a = b;
            b = rest;
        }
        return a;
    }

    private static long choices(int all, int chosen) {
        if (chosen > all) {
            return 0;
        }
        long result = 1;
        for (int i = 1; i <= chosen; i++) {
            result = result * (all - chosen + i) / i;
        }
        return result;
    }

    /** The glasses and what is in them, over a common lower number that is at most MOST_LOWER. */
    private static final class Table {
        private final int[] sizes = new int[MOST_GLASSES];
        private final int[] fulls = new int[MOST_GLASSES];
        private long[] parts = new long[MOST_GLASSES * STUFFS];
        private long[] newParts = new long[MOST_GLASSES * STUFFS];
        private long lower = 1;
        private int glasses;

        boolean has(int glass) {
            return glass >= 0 && glass < glasses;
        }

        int sizeOf(int glass) {
            return has(glass) ? sizes[glass] : 0;
        }

        int fullOf(int glass) {
            return has(glass) ? fulls[glass] : 0;
        }

        long partOf(int glass, int stuff) {
            return has(glass) && stuff >= 0 && stuff < STUFFS ? parts[glass * STUFFS + stuff] : 0;
        }

        /** Hundredths, cut; 0 if the glass is empty or not there. */
        int tasteOf(int glass, int stuff) {
            if (!has(glass) || stuff < 0 || stuff >= STUFFS) {
                return 0;
            }
            long all = lower * fulls[glass];
            return all <= 0 ? 0 : (int) (HUNDRED * parts[glass * STUFFS + stuff] / all);
        }

        boolean asStrong(int one, int other, int stuff) {
            if (fullOf(one) == 0 || fullOf(other) == 0) {
                return partOf(one, stuff) == partOf(other, stuff);
            }
            return partOf(one, stuff) * fullOf(other) == partOf(other, stuff) * fullOf(one);
        }

        boolean isNear(int glass, int stuff, int strength, int within) {
            if (!has(glass) || stuff < 0 || stuff >= STUFFS || fulls[glass] <= 0) {
                return false;
            }
            long all = lower * fulls[glass];
            return Math.abs(HUNDRED * parts[glass * STUFFS + stuff] - strength * all) <= within * all;
        }

        int add(int size) {
            if (glasses >= MOST_GLASSES) {
                return NO_ROOM;
            }
            sizes[glasses] = size;
            glasses++;
            clear(glasses - 1);
            return glasses - 1;
        }

        void clear(int glass) {
            if (!has(glass)) {
                return;
            }
            fulls[glass] = 0;
            for (int stuff = 0; stuff < STUFFS; stuff++) {
                parts[glass * STUFFS + stuff] = 0;
            }
        }

        int pour(int glass, int stuff, int amount) {
            if (!isAmount(amount) || !isStuff(stuff) || sizeOf(glass) - fullOf(glass) < amount) {
                return CANNOT_BE;
            }
            fulls[glass] += amount;
            parts[glass * STUFFS + stuff] += amount * lower;
            return 0;
        }

        boolean canCarry(int from, int to, int amount) {
            return isAmount(amount) && from != to && fullOf(from) >= amount && sizeOf(to) - fullOf(to) >= amount;
        }

        /** Spoons; nothing has changed if it is refused. */
        int carry(int from, int to, int amount) {
            if (!canCarry(from, to, amount)) {
                return CANNOT_BE;
            }
            share(from, to, amount);
            if (!settle(lower * fulls[from])) {
                return NO_ROOM;
            }
            fulls[from] -= amount;
            fulls[to] += amount;
            return 0;
        }

        /** Licks; nothing has changed if it is refused. */
        int takeOut(int from, int amount) {
            if (!isAmount(amount) || fullOf(from) < amount) {
                return CANNOT_BE;
            }
            share(from, NONE, amount);
            if (!settle(lower * fulls[from])) {
                return NO_ROOM;
            }
            fulls[from] -= amount;
            return 0;
        }

        /** Writes the new parts over a lower number that is as many times as large as the glass is full. */
        private void share(int from, int to, int amount) {
            for (int at = 0; at < glasses * STUFFS; at++) {
                newParts[at] = parts[at] * fulls[from];
            }
            for (int stuff = 0; stuff < STUFFS; stuff++) {
                long taken = parts[from * STUFFS + stuff] * amount;
                newParts[from * STUFFS + stuff] -= taken;
                if (has(to)) {
                    newParts[to * STUFFS + stuff] += taken;
                }
            }
        }

        /** The new parts become the parts, if there is room; they are reduced only where room asks for it. */
        private boolean settle(long wideLower) {
            long divisor = wideLower > MOST_LOWER ? divisorOf(newParts, wideLower) : 1;
            if (divisor <= 0 || wideLower / divisor > MOST_LOWER) {
                return false;
            }
            divideBy(newParts, divisor);
            lower = wideLower / divisor;
            long[] oldParts = parts;
            parts = newParts;
            newParts = oldParts;
            return true;
        }

        void toLowestTerms() {
            long divisor = divisorOf(parts, lower);
            if (divisor > 0) {
                divideBy(parts, divisor);
                lower = lower / divisor;
            }
        }

        private long divisorOf(long[] numbers, long lowerNumber) {
            long divisor = lowerNumber;
            for (int at = 0; at < glasses * STUFFS && divisor > 1; at++) {
                divisor = commonDivisor(numbers[at], divisor);
            }
            return divisor;
        }

        private void divideBy(long[] numbers, long divisor) {
            for (int at = 0; at < glasses * STUFFS && divisor > 1; at++) {
                numbers[at] /= divisor;
            }
        }

        void copyFrom(Table other) {
            System.arraycopy(other.sizes, 0, sizes, 0, MOST_GLASSES);
            System.arraycopy(other.fulls, 0, fulls, 0, MOST_GLASSES);
            System.arraycopy(other.parts, 0, parts, 0, MOST_GLASSES * STUFFS);
            lower = other.lower;
            glasses = other.glasses;
        }
    }

    /** All that an image keeps. */
    private static final class State {
        private final Table table = new Table();
        private final int[] spoons = new int[MOST_SPOONS];
        private int spoonCount;
        /** glass, stuff, taste of each */
        private final int[] tastings = new int[MOST_TASTINGS * TRIPLE];
        private int tastingCount;
        /** strength, price, amount of each */
        private final int[] wines = new int[MOST_WINES * TRIPLE];
        private int wineCount;

        void copyFrom(State other) {
            table.copyFrom(other.table);
            System.arraycopy(other.spoons, 0, spoons, 0, MOST_SPOONS);
            System.arraycopy(other.tastings, 0, tastings, 0, MOST_TASTINGS * TRIPLE);
            System.arraycopy(other.wines, 0, wines, 0, MOST_WINES * TRIPLE);
            spoonCount = other.spoonCount;
            tastingCount = other.tastingCount;
            wineCount = other.wineCount;
        }
    }

    /** Goes through all rows of so many moves, in their order. */
    private static final class Search {
        private final Table[] tables = new Table[MOST_MOVES + 1];
        private final int[] tried = new int[MOST_MOVES * TRIPLE];
        private final int[] first = new int[MOST_MOVES * TRIPLE];
        private boolean reaching;
        private int goalGlass;
        private int goalStuff;
        private int goalStrength;
        private int goalWithin;
        private int found;

        Search() {
            for (int depth = 0; depth <= MOST_MOVES; depth++) {
                tables[depth] = new Table();
            }
        }

        /** How few moves reach the strength, or NONE. */
        int fewest(State state, int glass, int stuff, int strength, int within) {
            reaching = true;
            goalGlass = glass;
            goalStuff = stuff;
            goalStrength = strength;
            goalWithin = within;
            found = 0;
            tables[0].copyFrom(state.table);
            for (int n = 0; n <= MOST_MOVES; n++) {
                walk(state, 0, n);
                if (found > 0) {
                    return n;
                }
            }
            return NONE;
        }

        /** How many rows of n moves fit the tastings. */
        int fitting(State state, int n) {
            reaching = false;
            found = 0;
            tables[0].copyFrom(state.table);
            walk(state, 0, n);
            return found;
        }

        /** Of the first row found the i-th move's spoon, from, to. */
        int ofFirst(int moves, int i, int what) {
            if (i < 0 || i >= moves || i >= MOST_MOVES || !isWithin(what, 0, TRIPLE - 1)) {
                return NONE;
            }
            return first[i * TRIPLE + what];
        }

        private void walk(State state, int depth, int n) {
            if (depth >= n || depth >= MOST_MOVES) {
                judge(state, tables[depth]);
                return;
            }
            for (int spoon = 0; spoon < state.spoonCount; spoon++) {
                for (int from = 0; from < SEARCHED_GLASSES; from++) {
                    for (int to = 0; to < SEARCHED_GLASSES; to++) {
                        step(state, depth, n, spoon, from, to);
                    }
                }
            }
        }

        private void step(State state, int depth, int n, int spoon, int from, int to) {
            boolean enough = reaching && found > 0;
            if (enough || !tables[depth].canCarry(from, to, state.spoons[spoon])) {
                return;
            }
            Table after = tables[depth + 1];
            after.copyFrom(tables[depth]);
            if (after.carry(from, to, state.spoons[spoon]) == 0) {
                putTriple(tried, depth, spoon, from, to);
                walk(state, depth + 1, n);
            }
        }

        private void judge(State state, Table table) {
            boolean isNear = reaching && table.isNear(goalGlass, goalStuff, goalStrength, goalWithin);
            boolean fitsAll = !reaching && isAsTold(state, table);
            if (!isNear && !fitsAll) {
                return;
            }
            if (found == 0) {
                System.arraycopy(tried, 0, first, 0, MOST_MOVES * TRIPLE);
            }
            found++;
        }

        private static boolean isAsTold(State state, Table table) {
            int[] told = state.tastings;
            for (int at = 0; at < state.tastingCount * TRIPLE; at += TRIPLE) {
                if (table.tasteOf(told[at], told[at + 1]) != told[at + 2]) {
                    return false;
                }
            }
            return true;
        }
    }

    /** Finds the cheapest mix; of equally cheap ones the first as a row. */
    private static final class Mixer {
        private final int[] tried = new int[MOST_WINES];
        private final int[] best = new int[MOST_WINES];
        private int bestPrice;
        /** of a wine and all behind it: how much there is, the least and the most strength, the least price */
        private final int[] amounts = new int[MOST_WINES + 1];
        private final int[] weakest = new int[MOST_WINES + 1];
        private final int[] strongest = new int[MOST_WINES + 1];
        private final int[] cheapest = new int[MOST_WINES + 1];

        int leastPrice(State state, int amount, int strength) {
            bestPrice = NONE;
            lookBehind(state);
            take(state, 0, amount, amount * strength, 0);
            return bestPrice;
        }

        private void lookBehind(State state) {
            int behind = Math.min(state.wineCount, MOST_WINES);
            amounts[behind] = 0;
            weakest[behind] = HUNDRED;
            strongest[behind] = 0;
            cheapest[behind] = MOST_PRICE;
            for (int wine = behind - 1; wine >= 0; wine--) {
                weakest[wine] = Math.min(weakest[wine + 1], state.wines[TRIPLE * wine]);
                strongest[wine] = Math.max(strongest[wine + 1], state.wines[TRIPLE * wine]);
                cheapest[wine] = Math.min(cheapest[wine + 1], state.wines[TRIPLE * wine + 1]);
                amounts[wine] = amounts[wine + 1] + state.wines[TRIPLE * wine + 2];
            }
        }

        /** Tries all amounts of this wine and those behind it; less comes first, so a later row must be cheaper. */
        private void take(State state, int wine, int amountLeft, int strengthLeft, int price) {
            if (!canBe(wine, amountLeft, strengthLeft) || !canBeCheaper(wine, amountLeft, price)) {
                return;
            }
            if (wine >= state.wineCount || wine >= MOST_WINES) {
                bestPrice = price;
                System.arraycopy(tried, 0, best, 0, MOST_WINES);
                return;
            }
            int strength = state.wines[TRIPLE * wine];
            int cost = state.wines[TRIPLE * wine + 1];
            int most = Math.min(amountLeft, state.wines[TRIPLE * wine + 2]);
            for (int taken = 0; taken <= most; taken++) {
                tried[wine] = taken;
                take(state, wine + 1, amountLeft - taken, strengthLeft - taken * strength, price + taken * cost);
            }
        }

        /** Whether it is not yet certain that the wines from this one on can't give what is left. */
        private boolean canBe(int wine, int amountLeft, int strengthLeft) {
            int least = amountLeft * weakest[wine];
            int most = amountLeft * strongest[wine];
            return amountLeft <= amounts[wine] && isWithin(strengthLeft, least, most);
        }

        private boolean canBeCheaper(int wine, int amountLeft, int price) {
            return bestPrice == NONE || price + amountLeft * cheapest[wine] < bestPrice;
        }
    }

    /** The bytes that were fed; for reading they are cut into tokens, behind them the end, one of them at hand. */
    private static final class Tape {
        private final int[] bytes = new int[MOST_BYTES];
        private int length;
        private final int[] kinds = new int[MOST_BYTES + 1];
        private final int[] starts = new int[MOST_BYTES + 1];
        private final int[] ends = new int[MOST_BYTES + 1];
        private final int[] values = new int[MOST_BYTES + 1];
        private int tokens;
        private int at;

        void append(int four) {
            for (int shift = 24; shift >= 0 && length < MOST_BYTES; shift -= 8) {
                bytes[length] = (four >> shift) & 255;
                length++;
            }
        }

        void cut() {
            tokens = 0;
            at = 0;
            for (int place = 0; place < length; place++) {
                if (isFirstOfToken(place)) {
                    beginToken(place, kindOf(bytes[place]));
                }
                if (bytes[place] != ' ' && tokens > 0) {
                    growToken(tokens - 1, place);
                }
            }
            beginToken(length, END);
        }

        private boolean isFirstOfToken(int place) {
            int kind = kindOf(bytes[place]);
            if (bytes[place] == ' ') {
                return false;
            }
            return kind == SIGN || place == 0 || kindOf(bytes[place - 1]) != kind;
        }

        private void beginToken(int place, int kind) {
            kinds[tokens] = kind;
            starts[tokens] = place;
            ends[tokens] = place;
            values[tokens] = 0;
            tokens++;
        }

        /** Numbers that are too large are all alike to the language, so a value need not grow beyond them. */
        private void growToken(int token, int place) {
            ends[token] = place + 1;
            if (kinds[token] == NUMBER) {
                values[token] = Math.min(values[token] * 10 + bytes[place] - '0', MOST_NUMBER + 1);
            }
        }

        private static int kindOf(int sign) {
            if (sign >= 'a' && sign <= 'z') {
                return WORD;
            }
            return sign >= '0' && sign <= '9' ? NUMBER : SIGN;
        }

        int place() {
            return starts[at];
        }

        boolean isEnd() {
            return kinds[at] == END;
        }

        boolean isSign(char sign) {
            return kinds[at] == SIGN && bytes[starts[at]] == sign;
        }

        boolean takeSign(char sign) {
            if (kinds[at] != SIGN || bytes[starts[at]] != sign) {
                return false;
            }
            at++;
            return true;
        }

        boolean takeWord(String word) {
            int start = starts[at];
            if (kinds[at] != WORD || ends[at] - start != word.length()) {
                return false;
            }
            for (int letter = 0; letter < word.length(); letter++) {
                if (bytes[start + letter] != word.charAt(letter)) {
                    return false;
                }
            }
            at++;
            return true;
        }

        /** The number, or NONE if it is none of these. */
        int takeNumber(int least, int most) {
            if (kinds[at] != NUMBER || values[at] < least || values[at] > most) {
                return NONE;
            }
            at++;
            return values[at - 1];
        }
    }

    /** One clause as it was read; its sum and its test are pieces of the script's code. */
    private static final class Clause {
        private int kind;
        private int stuff;
        private int from;
        private int to;
        private int times;
        private int sumStart;
        private int sumEnd;
        private int testEnd;
    }

    /** An evening as it was read: clauses, and code for a machine with a stack. */
    private static final class Script {
        private final Clause[] clauses = new Clause[MOST_CLAUSES];
        private int clauseCount;
        private final int[] codes = new int[MOST_BYTES];
        private final int[] details = new int[MOST_BYTES];
        private int length;

        Script() {
            for (int n = 0; n < MOST_CLAUSES; n++) {
                clauses[n] = new Clause();
            }
        }

        /** No token writes more than one code, so there is room for a whole tape's. */
        int write(int code, int detail) {
            if (length >= MOST_BYTES) {
                return NONE;
            }
            codes[length] = code;
            details[length] = detail;
            length++;
            return length - 1;
        }

        /** Lets the code at a place lead to the place that is written next. */
        void leadHere(int at) {
            if (at >= 0 && at < length) {
                details[at] = length;
            }
        }
    }

    /** Reads an evening; each method answers false as soon as the token at hand can't go on. */
    private static final class Parser {
        private final Tape tape = new Tape();
        private final Script script = new Script();
        private int parts;

        boolean readText() {
            parts = 0;
            script.length = 0;
            tape.cut();
            for (int n = 0; n < MOST_CLAUSES; n++) {
                script.clauseCount = n + 1;
                if (!readClause(script.clauses[n])) {
                    return false;
                }
                if (tape.isEnd()) {
                    return true;
                }
                if (!tape.takeSign(';')) {
                    return false;
                }
            }
            return false;
        }

        private boolean readClause(Clause clause) {
            return readMove(clause) && readTimes(clause) && readIf(clause);
        }

        private boolean readMove(Clause clause) {
            if (tape.takeWord("spoon")) {
                clause.kind = SPOON;
                return readAmount(clause) && readFrom(clause) && readTo(clause);
            }
            if (tape.takeWord("lick")) {
                clause.kind = LICK;
                return readAmount(clause) && readFrom(clause);
            }
            if (tape.takeWord("fill")) {
                clause.kind = FILL;
                clause.stuff = tape.takeNumber(0, STUFFS - 1);
                return clause.stuff != NONE && readAmount(clause) && readTo(clause);
            }
            return false;
        }

        private boolean readAmount(Clause clause) {
            clause.sumStart = script.length;
            boolean reads = readSum(0);
            clause.sumEnd = script.length;
            return reads;
        }

        private boolean readFrom(Clause clause) {
            clause.from = tape.takeWord("from") ? tape.takeNumber(0, MOST_GLASSES - 1) : NONE;
            return clause.from != NONE;
        }

        private boolean readTo(Clause clause) {
            clause.to = tape.takeWord("to") ? tape.takeNumber(0, MOST_GLASSES - 1) : NONE;
            return clause.to != NONE;
        }

        private boolean readTimes(Clause clause) {
            clause.times = tape.takeWord("times") ? tape.takeNumber(1, MOST_TIMES) : 1;
            return clause.times != NONE;
        }

        private boolean readIf(Clause clause) {
            boolean reads = !tape.takeWord("if") || readTest(0);
            clause.testEnd = script.length;
            return reads;
        }

        private boolean readTest(int brackets) {
            boolean reads = readBoth(brackets);
            for (int n = 0; n < MOST_BYTES && reads && tape.takeWord("or"); n++) {
                int skip = script.write(OR, 0);
                reads = readBoth(brackets);
                script.leadHere(skip);
            }
            return reads;
        }

        private boolean readBoth(int brackets) {
            boolean reads = readPlain(brackets);
            for (int n = 0; n < MOST_BYTES && reads && tape.takeWord("and"); n++) {
                int skip = script.write(AND, 0);
                reads = readPlain(brackets);
                script.leadHere(skip);
            }
            return reads;
        }

        private boolean readPlain(int brackets) {
            boolean turned = false;
            for (int n = 0; n < MOST_BYTES && tape.takeWord("not"); n++) {
                turned = !turned;
            }
            boolean reads;
            if (tape.isSign('(')) {
                reads = brackets < MOST_BRACKETS && tape.takeSign('(') && readTest(brackets + 1) && tape.takeSign(')');
            } else {
                reads = readSum(brackets);
                int code = reads ? takeComparison() : NOTHING;
                reads = code != NOTHING && readSum(brackets);
                script.write(code, 0);
            }
            if (turned) {
                script.write(NOT, 0);
            }
            return reads;
        }

        private int takeComparison() {
            if (tape.takeSign('<')) {
                return LESS;
            }
            if (tape.takeSign('>')) {
                return MORE;
            }
            return tape.takeSign('=') ? SAME : NOTHING;
        }

        private boolean readSum(int brackets) {
            boolean reads = readTerm(brackets);
            int code = reads ? takeSumSign() : NOTHING;
            for (int n = 0; n < MOST_BYTES && code != NOTHING; n++) {
                reads = readTerm(brackets);
                script.write(code, 0);
                code = reads ? takeSumSign() : NOTHING;
            }
            return reads;
        }

        private int takeSumSign() {
            if (tape.takeSign('+')) {
                return ADD;
            }
            return tape.takeSign('-') ? SUBTRACT : NOTHING;
        }

        private boolean readTerm(int brackets) {
            boolean reads = readPart(brackets);
            int code = reads ? takeTermSign() : NOTHING;
            for (int n = 0; n < MOST_BYTES && code != NOTHING; n++) {
                reads = readPart(brackets);
                script.write(code, 0);
                code = reads ? takeTermSign() : NOTHING;
            }
            return reads;
        }

        private int takeTermSign() {
            if (tape.takeSign('*')) {
                return MULTIPLY;
            }
            return tape.takeSign('/') ? DIVIDE : NOTHING;
        }

        private boolean readPart(int brackets) {
            if (tape.isSign('[')) {
                return brackets < MOST_BRACKETS && tape.takeSign('[') && readSum(brackets + 1) && tape.takeSign(']');
            }
            if (parts >= MOST_PARTS) {
                return false;
            }
            parts++;
            int number = tape.takeNumber(0, MOST_NUMBER);
            if (number != NONE) {
                script.write(PUSH, number);
                return true;
            }
            if (tape.takeWord("done")) {
                script.write(DONE, 0);
                return true;
            }
            if (tape.takeWord("full")) {
                return readGlass(FULL, 0);
            }
            if (tape.takeWord("size")) {
                return readGlass(SIZE, 0);
            }
            if (!tape.takeWord("taste")) {
                return false;
            }
            int stuff = tape.takeNumber(0, STUFFS - 1);
            return stuff != NONE && readGlass(TASTE, stuff);
        }

        private boolean readGlass(int code, int stuff) {
            int glass = tape.takeNumber(0, MOST_GLASSES - 1);
            if (glass == NONE) {
                return false;
            }
            script.write(code, glass * STUFFS + stuff);
            return true;
        }
    }

    /** Runs an evening on paper, then for good. */
    private static final class Runner {
        private final Table paper = new Table();
        private final long[] stack = new long[MOST_PARTS];
        private int height;
        private int done;
        private int clause;

        /** How many moves were done; or what the clause is refused by, and the table is as it was. */
        int run(Script script, Table table) {
            paper.copyFrom(table);
            done = 0;
            for (clause = 0; clause < script.clauseCount; clause++) {
                int refusal = runClause(script, script.clauses[clause]);
                if (refusal < 0) {
                    return refusal;
                }
            }
            paper.toLowestTerms();
            table.copyFrom(paper);
            return done;
        }

        private int runClause(Script script, Clause told) {
            for (int time = 0; time < told.times; time++) {
                if (isSo(script, told)) {
                    int refusal = move(script, told);
                    if (refusal < 0) {
                        return refusal;
                    }
                    done++;
                }
            }
            return 0;
        }

        /** Without an "if" there is no code for it. */
        private boolean isSo(Script script, Clause told) {
            if (told.testEnd <= told.sumEnd) {
                return true;
            }
            return works(script, told.sumEnd, told.testEnd) && stack[0] != 0;
        }

        private int move(Script script, Clause told) {
            if (!works(script, told.sumStart, told.sumEnd) || stack[0] < 1 || stack[0] > MOST_AMOUNT) {
                return CANNOT_BE;
            }
            int amount = (int) stack[0];
            switch (told.kind) {
                case SPOON:
                    return paper.carry(told.from, told.to, amount);
                case LICK:
                    return paper.takeOut(told.from, amount);
                default:
                    return paper.pour(told.to, told.stuff, amount);
            }
        }

        /** Works out a piece of code: its value lies on the stack alone then. False if it is broken. */
        private boolean works(Script script, int start, int stop) {
            height = 0;
            int goOn = start;
            for (int at = start; at < stop && at < script.length; at++) {
                int code = script.codes[at];
                int detail = script.details[at];
                if (at < goOn) {
                    continue;
                }
                if (code == AND || code == OR) {
                    goOn = isSettled(code) ? detail : goOn;
                } else if (!work(code, detail)) {
                    return false;
                }
            }
            return height == 1;
        }

        /** Whether what stands behind no longer matters; if it still does, it alone is the answer. */
        private boolean isSettled(int code) {
            if (height < 1) {
                return false;
            }
            boolean settled = (stack[height - 1] != 0) == (code == OR);
            if (!settled) {
                height--;
            }
            return settled;
        }

        private boolean work(int code, int detail) {
            int glass = detail / STUFFS;
            switch (code) {
                case PUSH:
                    return push(detail);
                case FULL:
                    return push(paper.fullOf(glass));
                case SIZE:
                    return push(paper.sizeOf(glass));
                case TASTE:
                    return push(paper.tasteOf(glass, detail % STUFFS));
                case DONE:
                    return push(done);
                case NOT:
                    return push(1 - pop());
                default:
                    return push(combined(code, pop(), pop()));
            }
        }

        /** The right one lies above the left one on the stack. */
        private static long combined(int code, long right, long left) {
            switch (code) {
                case ADD:
                    return left + right;
                case SUBTRACT:
                    return left - right;
                case MULTIPLY:
                    return left * right;
                case DIVIDE:
                    return right == 0 ? BROKEN : left / right;
                case LESS:
                    return left < right ? 1 : 0;
                case MORE:
                    return left > right ? 1 : 0;
                default:
                    return left == right ? 1 : 0;
            }
        }

        /** False for a value beyond what a sum may have. */
        private boolean push(long value) {
            if (height >= MOST_PARTS || value > MOST_VALUE || value < -MOST_VALUE) {
                return false;
            }
            stack[height] = value;
            height++;
            return true;
        }

        private long pop() {
            if (height <= 0) {
                return 0;
            }
            height--;
            return stack[height];
        }
    }
}

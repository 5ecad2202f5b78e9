/**
 * Goods under processing: recipes, lots with the debt that stands on them, what is made of them,
 * exports, releases, exports ahead of their imports, and the chain of yields. See README.md.
 */
public final class ProcessYields {
    public static final int NONE = -1;

    private static final int GOODS = 12;
    private static final int MOST_CENTS = 10000;
    private static final int MOST_NEEDS = 4;
    private static final int MOST_BY_PRODUCTS = 2;
    private static final int MOST_RATE = 12;
    private static final int MOST_DEPTH = 3;
    private static final int MOST_LOTS = 200;
    private static final int MOST_PRIORS = 40;
    private static final int MOST_AMOUNT = 10000;
    private static final int MOST_DEBT = 1000000;
    private static final int LAST_DAY = 100000;
    private static final int MONTH_DAYS = 30;
    private static final int MOST_QUOTIENT = 1000000000;

    private final int[] values;
    private final Recipes recipes;
    private final Lots lots;
    private final Priors priors;
    private final Batch batch;
    private final Chain ways;
    private int today;
    private long imported;
    private long discharged;
    private long owed;
    private long interest;

    public ProcessYields() {
        values = new int[GOODS];
        for (int good = 0; good < GOODS; good++) {
            values[good] = 1;
        }
        recipes = new Recipes();
        lots = new Lots();
        priors = new Priors();
        batch = new Batch();
        ways = new Chain();
    }

    public boolean value(int good, int cents) {
        if (!isGood(good) || !isWithin(cents, 0, MOST_CENTS)) {
            return false;
        }
        values[good] = cents;
        return true;
    }

    public boolean recipe(int product) {
        if (!isGood(product) || recipes.has[product]) {
            return false;
        }
        recipes.has[product] = true;
        recipes.size++;
        return true;
    }

    public int needs(int product, int good, int up, int down) throws IllegalArgumentException {
        checkPart(product, good, up, down);
        return recipes.addNeed(product, good, up, down) ? 1 : 0;
    }

    public int yields(int product, int good, int up, int down) throws IllegalArgumentException {
        checkPart(product, good, up, down);
        return recipes.addByProduct(product, good, up, down) ? 1 : 0;
    }

    public int in(int good, int n, int debt) throws IllegalArgumentException, IllegalStateException {
        if (!isGood(good) || !isWithin(n, 1, MOST_AMOUNT) || !isWithin(debt, 0, MOST_DEBT)) {
            throw new IllegalArgumentException("no such good, amount or debt");
        }
        if (lots.free() < 1) {
            throw new IllegalStateException("no room for a lot");
        }
        int number = lots.add(good, n, debt, today);
        imported += debt;
        discharged += priors.meet(lots, number, today);
        return number;
    }

    public int made(int product, int n, boolean byValue) throws IllegalArgumentException {
        if (!isGood(product) || recipes.inputs.sizes[product] < 1 || !isWithin(n, 1, MOST_AMOUNT)) {
            throw new IllegalArgumentException("no such good with needs, or no such amount");
        }
        batch.plan(recipes.outputs, product, n);
        if (!suffices(product, n) || lots.free() < batch.lotsToAdd()) {
            return 0;
        }
        batch.weigh(values, byValue);
        batch.apportion(takeNeeds(product, n));
        batch.store(lots, today);
        return 1;
    }

    public long export(int good, int n) throws IllegalArgumentException {
        checkTaking(good, n);
        if (lots.stockOf(good) < n) {
            return NONE;
        }
        long debt = lots.take(good, n, today);
        discharged += debt;
        return debt;
    }

    public long release(int good, int n) throws IllegalArgumentException {
        checkTaking(good, n);
        if (lots.stockOf(good) < n) {
            return NONE;
        }
        long debt = lots.take(good, n, today);
        owed += debt;
        interest += lots.takenInterest;
        return debt + lots.takenInterest;
    }

    public int prior(int good, int n, int until) throws IllegalArgumentException, IllegalStateException {
        if (!isGood(good) || !isWithin(n, 1, MOST_AMOUNT) || !isWithin(until, 0, LAST_DAY)) {
            throw new IllegalArgumentException("no such good, amount or day");
        }
        if (priors.size >= MOST_PRIORS) {
            throw new IllegalStateException("no room for a prior export");
        }
        priors.add(good, n, until);
        return priors.size;
    }

    public boolean day(int today) {
        if (!isWithin(today, this.today, LAST_DAY)) {
            return false;
        }
        this.today = today;
        return true;
    }

    public long chain(int product, int good, int side) throws IllegalArgumentException {
        if (!isGood(product) || !isGood(good) || !isWithin(side, 0, 1)) {
            throw new IllegalArgumentException("no such goods or side");
        }
        ways.trace(recipes, good);
        return side == 0 ? ways.above[product] : ways.below[product];
    }

    public long look(int good, int what) throws IndexOutOfBoundsException {
        if (!isGood(good) || !isWithin(what, 0, 7)) {
            throw new IndexOutOfBoundsException("no such good or what");
        }
        switch (what) {
            case 0:
                return lots.stockOf(good);
            case 1:
                return lots.debtOf(good);
            case 2:
                return lots.openOf(good);
            case 3:
                return recipes.has[good] ? recipes.inputs.sizes[good] : NONE;
            case 4:
                return recipes.has[good] ? recipes.outputs.sizes[good] : NONE;
            case 5:
                return recipes.depths[good];
            case 6:
                return values[good];
            default:
                return priors.openOf(good, today);
        }
    }

    public long lot(int i, int what) throws IndexOutOfBoundsException {
        if (!isWithin(i, 0, lots.size - 1) || !isWithin(what, 0, 3)) {
            throw new IndexOutOfBoundsException("no such lot or what");
        }
        switch (what) {
            case 0:
                return lots.goods[i];
            case 1:
                return lots.lefts[i];
            case 2:
                return lots.debts[i];
            default:
                return lots.days[i];
        }
    }

    public long sum(int what) {
        switch (what) {
            case 0:
                return imported;
            case 1:
                return discharged;
            case 2:
                return owed;
            case 3:
                return interest;
            case 4:
                return lots.wholeDebt();
            default:
                return NONE;
        }
    }

    public long quotient(int out, int yield) throws IllegalArgumentException, ArithmeticException {
        if (!isWithin(out, 0, MOST_QUOTIENT) || !isWithin(yield, 0, MOST_QUOTIENT)) {
            throw new IllegalArgumentException("not 0 .. 1000000000");
        }
        if (yield == 0) {
            throw new ArithmeticException("a yield of 0");
        }
        return out / yield;
    }

    public int count(int what) {
        switch (what) {
            case 0:
                return lots.size;
            case 1:
                return recipes.size;
            case 2:
                return priors.size;
            case 3:
                return today;
            default:
                return NONE;
        }
    }

    private boolean suffices(int product, int n) {
        Parts inputs = recipes.inputs;
        for (int k = 0; k < inputs.sizes[product]; k++) {
            if (lots.stockOf(inputs.goodAt(product, k)) < inputs.roundedUp(product, k, n)) {
                return false;
            }
        }
        return true;
    }

    private long takeNeeds(int product, int n) {
        Parts inputs = recipes.inputs;
        long debt = 0;
        for (int k = 0; k < inputs.sizes[product]; k++) {
            debt += lots.take(inputs.goodAt(product, k), inputs.roundedUp(product, k, n), today);
        }
        return debt;
    }

    private static void checkPart(int product, int good, int up, int down) {
        if (!isGood(product) || !isGood(good) || !isWithin(up, 1, MOST_RATE) || !isWithin(down, 1, MOST_RATE)) {
            throw new IllegalArgumentException("no such goods, or up or down is not 1 .. 12");
        }
    }

    private static void checkTaking(int good, int n) {
        if (!isGood(good) || n < 1) {
            throw new IllegalArgumentException("no such good, or an amount below 1");
        }
    }

    private static boolean isGood(int good) {
        return isWithin(good, 0, GOODS - 1);
    }

    private static boolean isWithin(int number, int least, int most) {
        return number >= least && number <= most;
    }

    /** The one place where a number that is not a constant divides: no divisor below 1 gets through. */
    private static long floorOf(long number, long divisor) {
        return divisor < 1 ? 0 : number / divisor;
    }

    private static long ceilOf(long number, long divisor) {
        return floorOf(number + divisor - 1, divisor);
    }

    /** Never below 1, so that it may divide. */
    private static long greatestDivisor(long one, long other) {
        long a = one;
        long b = other;
        // Two longs need fewer than 100 steps: the smaller one at least halves in two of them.
        for (int step = 0; step < 200 && b > 0; step++) {
            long rest = a - floorOf(a, b) * b;
            a = b;
            b = rest;
        }
        return a < 1 ? 1 : a;
    }

    /** Goods with their rates for one of a product, as they were told: of all products together. */
    private static final class Parts {
        // A row of MOST_NEEDS places for each product; what a product may have of them is "most".
        final int most;
        final int[] sizes = new int[GOODS];
        final int[] goods = new int[GOODS * MOST_NEEDS];
        final int[] ups = new int[GOODS * MOST_NEEDS];
        final int[] downs = new int[GOODS * MOST_NEEDS];

        Parts(int most) {
            this.most = Math.min(most, MOST_NEEDS);
        }

        /** False, and nothing is added, if it can't be a part of the product. */
        boolean add(int product, int good, int up, int down) {
            if (product == good || sizes[product] >= most || isTold(product, good)) {
                return false;
            }
            int place = place(product, sizes[product]);
            goods[place] = good;
            ups[place] = up;
            downs[place] = down;
            sizes[product]++;
            return true;
        }

        boolean isTold(int product, int good) {
            for (int k = 0; k < sizes[product]; k++) {
                if (goodAt(product, k) == good) {
                    return true;
                }
            }
            return false;
        }

        void dropLast(int product) {
            if (sizes[product] > 0) {
                sizes[product]--;
            }
        }

        int goodAt(int product, int k) {
            return goods[place(product, k)];
        }

        long roundedUp(int product, int k, int n) {
            int place = place(product, k);
            return ceilOf((long) n * ups[place], downs[place]);
        }

        long roundedDown(int product, int k, int n) {
            int place = place(product, k);
            return floorOf((long) n * ups[place], downs[place]);
        }

        static int place(int product, int k) {
            return product * MOST_NEEDS + k;
        }
    }

    /** Which goods have a recipe, of what it consists, and how deep it makes them. */
    private static final class Recipes {
        final boolean[] has = new boolean[GOODS];
        final Parts inputs = new Parts(MOST_NEEDS);
        final Parts outputs = new Parts(MOST_BY_PRODUCTS);
        final int[] depths = new int[GOODS];
        int size;

        boolean addNeed(int product, int good, int up, int down) {
            if (!has[product] || !inputs.add(product, good, up, down)) {
                return false;
            }
            if (measureDepths() > MOST_DEPTH) {
                inputs.dropLast(product);
                measureDepths();
                return false;
            }
            return true;
        }

        boolean addByProduct(int product, int good, int up, int down) {
            return has[product] && outputs.add(product, good, up, down);
        }

        /**
         * The greatest depth. A round more than the depth that is allowed: so a ring, which grows
         * with each round, comes out as too deep as well.
         */
        int measureDepths() {
            int greatest = 0;
            for (int good = 0; good < GOODS; good++) {
                depths[good] = 0;
            }
            for (int round = 0; round <= MOST_DEPTH; round++) {
                for (int good = 0; good < GOODS; good++) {
                    depths[good] = depthByNeeds(good);
                    greatest = Math.max(greatest, depths[good]);
                }
            }
            return greatest;
        }

        int depthByNeeds(int product) {
            int depth = 0;
            for (int k = 0; k < inputs.sizes[product]; k++) {
                depth = Math.max(depth, 1 + depths[inputs.goodAt(product, k)]);
            }
            return depth;
        }
    }

    /** All lots in their order, those of which nothing is left too. */
    private static final class Lots {
        final int[] goods = new int[MOST_LOTS];
        final long[] lefts = new long[MOST_LOTS];
        final long[] debts = new long[MOST_LOTS];
        final int[] days = new int[MOST_LOTS];
        int size;
        // What the last take() would owe in interest, were it a release: a method answers one number.
        long takenInterest;

        int free() {
            return MOST_LOTS - size;
        }

        int add(int good, long amount, long debt, int day) {
            if (size >= MOST_LOTS) {
                return NONE;
            }
            goods[size] = good;
            lefts[size] = amount;
            debts[size] = debt;
            days[size] = day;
            size++;
            return size - 1;
        }

        long stockOf(int good) {
            long stock = 0;
            for (int i = 0; i < size; i++) {
                stock += goods[i] == good ? lefts[i] : 0;
            }
            return stock;
        }

        long debtOf(int good) {
            long debt = 0;
            for (int i = 0; i < size; i++) {
                debt += goods[i] == good ? debts[i] : 0;
            }
            return debt;
        }

        int openOf(int good) {
            int open = 0;
            for (int i = 0; i < size; i++) {
                open += goods[i] == good && lefts[i] > 0 ? 1 : 0;
            }
            return open;
        }

        long wholeDebt() {
            long debt = 0;
            for (int i = 0; i < size; i++) {
                debt += debts[i];
            }
            return debt;
        }

        /** The debt of what is taken; the caller has seen that the stock suffices. */
        long take(int good, long amount, int today) {
            long rest = amount;
            long debt = 0;
            takenInterest = 0;
            for (int i = 0; i < size && rest > 0; i++) {
                if (goods[i] == good && lefts[i] > 0) {
                    long part = Math.min(rest, lefts[i]);
                    long partDebt = takeFrom(i, part);
                    takenInterest += partDebt * months(i, today) / 100;
                    debt += partDebt;
                    rest -= part;
                }
            }
            return debt;
        }

        long takeFrom(int i, long part) {
            long debt = part == lefts[i] ? debts[i] : floorOf(debts[i] * part, lefts[i]);
            lefts[i] -= part;
            debts[i] -= debt;
            return debt;
        }

        long months(int i, int today) {
            return ceilOf(today - days[i], MONTH_DAYS);
        }
    }

    /** Exports ahead of their imports, in their order, those that are met or too late too. */
    private static final class Priors {
        final int[] goods = new int[MOST_PRIORS];
        final long[] lefts = new long[MOST_PRIORS];
        final int[] untils = new int[MOST_PRIORS];
        int size;

        void add(int good, int amount, int until) {
            if (size < MOST_PRIORS) {
                goods[size] = good;
                lefts[size] = amount;
                untils[size] = until;
                size++;
            }
        }

        boolean isOpen(int i, int good, int today) {
            return goods[i] == good && lefts[i] > 0 && untils[i] >= today;
        }

        long openOf(int good, int today) {
            long left = 0;
            for (int i = 0; i < size; i++) {
                left += isOpen(i, good, today) ? lefts[i] : 0;
            }
            return left;
        }

        /** The debt that a new lot discharges by what it gives to the exports that went ahead of it. */
        long meet(Lots lots, int number, int today) {
            long debt = 0;
            if (!isWithin(number, 0, lots.size - 1)) {
                return debt;
            }
            for (int i = 0; i < size && lots.lefts[number] > 0; i++) {
                if (isOpen(i, lots.goods[number], today)) {
                    long part = Math.min(lefts[i], lots.lefts[number]);
                    debt += lots.takeFrom(number, part);
                    lefts[i] -= part;
                }
            }
            return debt;
        }
    }

    /** What one making brings: the product first, then its by-products. Used again for each making. */
    private static final class Batch {
        final int[] goods = new int[1 + MOST_BY_PRODUCTS];
        final long[] amounts = new long[1 + MOST_BY_PRODUCTS];
        final long[] weights = new long[1 + MOST_BY_PRODUCTS];
        final long[] shares = new long[1 + MOST_BY_PRODUCTS];
        final long[] remainders = new long[1 + MOST_BY_PRODUCTS];
        int size;

        void plan(Parts outputs, int product, int n) {
            goods[0] = product;
            amounts[0] = n;
            size = 1;
            for (int k = 0; k < outputs.sizes[product] && size <= MOST_BY_PRODUCTS; k++) {
                goods[size] = outputs.goodAt(product, k);
                amounts[size] = outputs.roundedDown(product, k, n);
                size++;
            }
        }

        int lotsToAdd() {
            int toAdd = 0;
            for (int i = 0; i < size; i++) {
                toAdd += amounts[i] > 0 ? 1 : 0;
            }
            return toAdd;
        }

        void weigh(int[] values, boolean byValue) {
            for (int i = 0; i < size; i++) {
                weights[i] = byValue ? amounts[i] * values[goods[i]] : amounts[i];
            }
        }

        /** At most 2 * 10^8 cents times a weight of 1.2 * 10^9: a long holds it. */
        void apportion(long debt) {
            long whole = 0;
            for (int i = 0; i < size; i++) {
                whole += weights[i];
            }
            long rest = debt;
            for (int i = 0; i < size; i++) {
                shares[i] = floorOf(debt * weights[i], whole);
                remainders[i] = debt * weights[i] - shares[i] * whole;
                rest -= shares[i];
            }
            if (whole == 0) {
                shares[0] = rest;
            } else {
                spread(rest);
            }
        }

        /** One cent each at most, so a share that got one is out of the search. */
        void spread(long cents) {
            for (int given = 0; given < size && given < cents; given++) {
                int best = greatestRemainder();
                shares[best]++;
                remainders[best] = NONE;
            }
        }

        int greatestRemainder() {
            int best = 0;
            for (int i = 1; i < size; i++) {
                if (remainders[i] > remainders[best]) {
                    best = i;
                }
            }
            return best;
        }

        void store(Lots lots, int today) {
            for (int i = 0; i < size; i++) {
                if (amounts[i] > 0) {
                    lots.add(goods[i], amounts[i], shares[i], today);
                }
            }
        }
    }

    /**
     * For each good, how many of one certain good are needed for one of it, as a reduced fraction.
     * What is below the line divides 27720^3 (27720 is the least common multiple of 1 .. 12), and
     * three steps of four needs at 12 / 1 stay below 28000 for one: a long holds what is above.
     */
    private static final class Chain {
        final long[] above = new long[GOODS];
        final long[] below = new long[GOODS];

        void trace(Recipes recipes, int target) {
            for (int good = 0; good < GOODS; good++) {
                above[good] = good == target ? 1 : 0;
                below[good] = 1;
            }
            // By depth, so that a good's needs are ready before it.
            for (int depth = 1; depth <= MOST_DEPTH; depth++) {
                for (int good = 0; good < GOODS; good++) {
                    if (recipes.depths[good] == depth && good != target) {
                        gather(recipes.inputs, good);
                    }
                }
            }
        }

        void gather(Parts inputs, int product) {
            for (int k = 0; k < inputs.sizes[product]; k++) {
                int place = Parts.place(product, k);
                int need = inputs.goods[place];
                addFraction(product, above[need] * inputs.ups[place], below[need] * inputs.downs[place]);
            }
        }

        void addFraction(int product, long up, long down) {
            long shared = greatestDivisor(up, down);
            long partUp = floorOf(up, shared);
            long partDown = floorOf(down, shared);
            long line = floorOf(below[product], greatestDivisor(below[product], partDown)) * partDown;
            long sum = above[product] * floorOf(line, below[product]) + partUp * floorOf(line, partDown);
            long common = greatestDivisor(sum, line);
            above[product] = floorOf(sum, common);
            below[product] = floorOf(line, common);
        }
    }
}

import java.math.BigInteger;
import java.util.ArrayList;
import java.util.List;
import java.util.Random;

/** Long runs of calls with seeded numbers, against a second writing of the document (see Model). */
public final class ModelTest {
    private static final int RUNS = 2500;
    private static final int CALLS = 512;

    // Which call a number stands for, see step(): all alike; and many lots, so that there is no room in the end.
    private static final int[] ALL_KINDS = {0, 1, 2, 3, 4, 5, 6, 7, 8, 9, 10, 11, 12, 13, 14, 15, 16, 17};
    private static final int[] MANY_LOTS = {4, 4, 4, 4, 5, 5, 5, 5, 6, 6, 7, 8, 9, 10, 11, 14};

    private static final int[] EDGES = {-1, 0, 1, 2, 3, 11, 12, 13, 10000, 10001, 100000, 100001, 1000000, 1000001,
        1000000000, 1000000001, Integer.MIN_VALUE, Integer.MAX_VALUE};

    private final Random random;
    private final Watched x = new Watched();
    private final Model model = new Model();
    private final int style;

    private ModelTest(int seed) {
        random = new Random(seed);
        style = seed % 5;
    }

    public static void main(String[] args) {
        for (int seed = 0; seed < RUNS; seed++) {
            new ModelTest(seed).run(seed);
        }
        Check.end("ModelTest");
    }

    private void run(int seed) {
        // Most runs begin with recipes, so that the later calls find something to make.
        int set = style == 0 ? 0 : 60;
        for (int i = 0; i < CALLS; i++) {
            step(seed, i, i < set);
        }
    }

    private void step(int seed, int i, boolean setting) {
        int[] kinds = style == 4 ? MANY_LOTS : ALL_KINDS;
        int kind = setting ? random.nextInt(4) : kinds[random.nextInt(kinds.length)];
        int a = good();
        int b = good();
        int c = random.nextInt(20) == 0 ? edge() : 1 + random.nextInt(12);
        int d = random.nextInt(20) == 0 ? edge() : 1 + random.nextInt(12);
        int n = amount();
        int what = random.nextInt(20) == 0 ? edge() : random.nextInt(9) - 1;
        boolean by = random.nextBoolean();
        String name;
        Check.Call mine;
        Check.Call due;
        switch (kind) {
            case 0: {
                int cents = random.nextInt(20) == 0 ? edge() : random.nextInt(3) == 0 ? 0 : random.nextInt(10001);
                name = "value(" + a + ", " + cents + ")";
                mine = () -> x.value(a, cents) ? 1 : 0;
                due = () -> model.value(a, cents) ? 1 : 0;
                break;
            }
            case 1:
                name = "recipe(" + a + ")";
                mine = () -> x.recipe(a) ? 1 : 0;
                due = () -> model.recipe(a) ? 1 : 0;
                break;
            case 2:
                name = "needs(" + a + ", " + b + ", " + c + ", " + d + ")";
                mine = () -> x.needs(a, b, c, d);
                due = () -> model.needs(a, b, c, d);
                break;
            case 3:
                name = "yields(" + a + ", " + b + ", " + c + ", " + d + ")";
                mine = () -> x.yields(a, b, c, d);
                due = () -> model.yields(a, b, c, d);
                break;
            case 4:
            case 5: {
                int debt = random.nextInt(30) == 0 ? edge() : random.nextInt(random.nextBoolean() ? 200 : 1000001);
                name = "in(" + a + ", " + n + ", " + debt + ")";
                mine = () -> x.in(a, n, debt);
                due = () -> model.in(a, n, debt);
                break;
            }
            case 6:
            case 7:
                name = "made(" + a + ", " + n + ", " + by + ")";
                mine = () -> x.made(a, n, by);
                due = () -> model.made(a, n, by);
                break;
            case 8:
                name = "export(" + a + ", " + n + ")";
                mine = () -> x.export(a, n);
                due = () -> model.taken(a, n, false);
                break;
            case 9:
                name = "release(" + a + ", " + n + ")";
                mine = () -> x.release(a, n);
                due = () -> model.taken(a, n, true);
                break;
            case 10: {
                int until = random.nextInt(20) == 0 ? edge() : model.today + random.nextInt(60) - 5;
                name = "prior(" + a + ", " + n + ", " + until + ")";
                mine = () -> x.prior(a, n, until);
                due = () -> model.prior(a, n, until);
                break;
            }
            case 11: {
                int to = random.nextInt(100) == 0 ? edge() : model.today + random.nextInt(40) - 3;
                name = "day(" + to + ")";
                mine = () -> x.day(to) ? 1 : 0;
                due = () -> model.day(to) ? 1 : 0;
                break;
            }
            case 12: {
                int side = random.nextInt(20) == 0 ? edge() : random.nextInt(2);
                name = "chain(" + a + ", " + b + ", " + side + ")";
                mine = () -> x.chain(a, b, side);
                due = () -> model.chain(a, b, side);
                break;
            }
            case 13:
                name = "look(" + a + ", " + what + ")";
                mine = () -> x.look(a, what);
                due = () -> model.look(a, what);
                break;
            case 14: {
                int lot = random.nextInt(20) == 0 ? edge() : random.nextInt(model.lots.size() + 1);
                name = "lot(" + lot + ", " + what + ")";
                mine = () -> x.lot(lot, what);
                due = () -> model.lot(lot, what);
                break;
            }
            case 15:
                name = "sum(" + what + ")";
                mine = () -> x.sum(what);
                due = () -> model.sum(what);
                break;
            case 16:
                name = "count(" + what + ")";
                mine = () -> x.count(what);
                due = () -> model.count(what);
                break;
            default: {
                int out = random.nextBoolean() ? edge() : random.nextInt(1000000001);
                name = "quotient(" + out + ", " + n + ")";
                mine = () -> x.quotient(out, n);
                due = () -> model.quotient(out, n);
                break;
            }
        }
        String got = said(mine);
        String want = said(due);
        Check.holds("run " + seed + ", call " + i + ": " + name + " is " + want + ", not " + got, got.equals(want));
        // Not near the last call: what is left of the 512 is what the state is read by.
        if (i == 127 || i == 255 || i == 399) {
            Check.holds("run " + seed + ": the state after call " + i, x.state().equals(model.state()));
        }
    }

    private static String said(Check.Call call) {
        try {
            return Long.toString(call.answer());
        } catch (RuntimeException e) {
            return e.getClass().getName();
        }
    }

    private int good() {
        if (random.nextInt(60) == 0) {
            return edge();
        }
        // Few goods in some runs, so that needs, lots and prior exports meet.
        return random.nextInt(style == 1 ? 4 : style == 2 || style == 4 ? 6 : 12);
    }

    private int amount() {
        switch (random.nextInt(30)) {
            case 0:
                return edge();
            case 1:
            case 2:
            case 3:
                return 1 + random.nextInt(10000);
            default:
                return 1 + random.nextInt(style == 3 ? 2000 : 25);
        }
    }

    private int edge() {
        return EDGES[random.nextInt(EDGES.length)];
    }

    /** The document once more, by lists, objects and great numbers, and by recursion where it has "all ways". */
    private static final class Model {
        private static final class Part {
            int good;
            BigInteger up;
            BigInteger down;
        }

        private static final class Lot {
            int good;
            BigInteger left;
            BigInteger debt;
            int day;
        }

        private static final class Prior {
            int good;
            BigInteger left;
            int until;
        }

        final int[] values = new int[12];
        final List<List<Part>> needs = new ArrayList<>();
        final List<List<Part>> outs = new ArrayList<>();
        final List<Lot> lots = new ArrayList<>();
        final List<Prior> priors = new ArrayList<>();
        int today;
        BigInteger imported = BigInteger.ZERO;
        BigInteger discharged = BigInteger.ZERO;
        BigInteger owed = BigInteger.ZERO;
        BigInteger interest = BigInteger.ZERO;

        Model() {
            for (int i = 0; i < 12; i++) {
                values[i] = 1;
                needs.add(null);
                outs.add(null);
            }
        }

        static boolean good(int g) {
            return g >= 0 && g < 12;
        }

        static BigInteger big(long n) {
            return BigInteger.valueOf(n);
        }

        boolean value(int g, int cents) {
            if (!good(g) || cents < 0 || cents > 10000) {
                return false;
            }
            values[g] = cents;
            return true;
        }

        boolean recipe(int g) {
            if (!good(g) || needs.get(g) != null) {
                return false;
            }
            needs.set(g, new ArrayList<>());
            outs.set(g, new ArrayList<>());
            return true;
        }

        static Part part(int g, int up, int down) {
            Part p = new Part();
            p.good = g;
            p.up = big(up);
            p.down = big(down);
            return p;
        }

        static void parts(int p, int g, int up, int down) {
            if (!good(p) || !good(g) || up < 1 || up > 12 || down < 1 || down > 12) {
                throw new IllegalArgumentException();
            }
        }

        static boolean told(List<Part> list, int g) {
            return list.stream().anyMatch(p -> p.good == g);
        }

        boolean reaches(int from, int to) {
            if (from == to) {
                return true;
            }
            return needs.get(from) != null && needs.get(from).stream().anyMatch(p -> reaches(p.good, to));
        }

        int depth(int g) {
            if (needs.get(g) == null) {
                return 0;
            }
            return needs.get(g).stream().mapToInt(p -> 1 + depth(p.good)).max().orElse(0);
        }

        /** The longest way up from a good to what is made of it. */
        int height(int g) {
            int height = 0;
            for (int p = 0; p < 12; p++) {
                if (needs.get(p) != null && told(needs.get(p), g)) {
                    height = Math.max(height, 1 + height(p));
                }
            }
            return height;
        }

        int needs(int p, int g, int up, int down) {
            parts(p, g, up, down);
            List<Part> list = needs.get(p);
            if (list == null || p == g || told(list, g) || list.size() == 4 || reaches(g, p)) {
                return 0;
            }
            if (height(p) + 1 + depth(g) > 3) {
                return 0;
            }
            list.add(part(g, up, down));
            return 1;
        }

        int yields(int p, int g, int up, int down) {
            parts(p, g, up, down);
            List<Part> list = outs.get(p);
            if (list == null || p == g || told(list, g) || list.size() == 2) {
                return 0;
            }
            list.add(part(g, up, down));
            return 1;
        }

        int addLot(int g, BigInteger n, BigInteger debt) {
            Lot lot = new Lot();
            lot.good = g;
            lot.left = n;
            lot.debt = debt;
            lot.day = today;
            lots.add(lot);
            return lots.size() - 1;
        }

        static BigInteger takeOf(Lot lot, BigInteger n) {
            BigInteger debt = n.equals(lot.left) ? lot.debt : lot.debt.multiply(n).divide(lot.left);
            lot.left = lot.left.subtract(n);
            lot.debt = lot.debt.subtract(debt);
            return debt;
        }

        int in(int g, int n, int debt) {
            if (!good(g) || n < 1 || n > 10000 || debt < 0 || debt > 1000000) {
                throw new IllegalArgumentException();
            }
            if (lots.size() == 200) {
                throw new IllegalStateException();
            }
            int i = addLot(g, big(n), big(debt));
            imported = imported.add(big(debt));
            for (Prior p : priors) {
                BigInteger n1 = p.left.min(lots.get(i).left);
                if (p.good == g && p.until >= today && n1.signum() > 0) {
                    discharged = discharged.add(takeOf(lots.get(i), n1));
                    p.left = p.left.subtract(n1);
                }
            }
            return i;
        }

        BigInteger stock(int g) {
            return lots.stream().filter(l -> l.good == g).map(l -> l.left).reduce(BigInteger.ZERO, BigInteger::add);
        }

        /** The debt, and the interest behind it. */
        BigInteger[] take(int g, BigInteger n) {
            BigInteger debt = BigInteger.ZERO;
            BigInteger more = BigInteger.ZERO;
            BigInteger rest = n;
            for (Lot lot : lots) {
                if (lot.good == g) {
                    BigInteger x = lot.left.min(rest);
                    if (x.signum() > 0) {
                        BigInteger part = takeOf(lot, x);
                        int days = today - lot.day;
                        int months = days / 30 + (days % 30 > 0 ? 1 : 0);
                        debt = debt.add(part);
                        more = more.add(part.multiply(big(months)).divide(big(100)));
                        rest = rest.subtract(x);
                    }
                }
            }
            return new BigInteger[] {debt, more};
        }

        static BigInteger ceil(BigInteger a, BigInteger b) {
            BigInteger[] q = a.divideAndRemainder(b);
            return q[1].signum() > 0 ? q[0].add(BigInteger.ONE) : q[0];
        }

        int made(int p, int n, boolean byValue) {
            if (!good(p) || needs.get(p) == null || needs.get(p).isEmpty() || n < 1 || n > 10000) {
                throw new IllegalArgumentException();
            }
            List<Integer> goods = new ArrayList<>();
            List<BigInteger> amounts = new ArrayList<>();
            goods.add(p);
            amounts.add(big(n));
            for (Part out : outs.get(p)) {
                BigInteger m = big(n).multiply(out.up).divide(out.down);
                if (m.signum() > 0) {
                    goods.add(out.good);
                    amounts.add(m);
                }
            }
            if (lots.size() + goods.size() > 200) {
                return 0;
            }
            for (Part need : needs.get(p)) {
                if (stock(need.good).compareTo(ceil(big(n).multiply(need.up), need.down)) < 0) {
                    return 0;
                }
            }
            BigInteger debt = BigInteger.ZERO;
            for (Part need : needs.get(p)) {
                debt = debt.add(take(need.good, ceil(big(n).multiply(need.up), need.down))[0]);
            }
            BigInteger[] shares = apportioned(goods, amounts, debt, byValue);
            for (int i = 0; i < shares.length; i++) {
                addLot(goods.get(i), amounts.get(i), shares[i]);
            }
            return 1;
        }

        BigInteger[] apportioned(List<Integer> goods, List<BigInteger> amounts, BigInteger debt, boolean byValue) {
            int size = goods.size();
            BigInteger[] w = new BigInteger[size];
            BigInteger whole = BigInteger.ZERO;
            for (int i = 0; i < size; i++) {
                w[i] = byValue ? amounts.get(i).multiply(big(values[goods.get(i)])) : amounts.get(i);
                whole = whole.add(w[i]);
            }
            BigInteger[] shares = new BigInteger[size];
            if (whole.signum() == 0) {
                java.util.Arrays.fill(shares, BigInteger.ZERO);
                shares[0] = debt;
                return shares;
            }
            List<Integer> order = new ArrayList<>();
            BigInteger[] rest = new BigInteger[size];
            BigInteger left = debt;
            for (int i = 0; i < size; i++) {
                BigInteger[] q = debt.multiply(w[i]).divideAndRemainder(whole);
                shares[i] = q[0];
                rest[i] = q[1];
                left = left.subtract(q[0]);
                order.add(i);
            }
            order.sort((i, j) -> rest[j].compareTo(rest[i]));
            for (int k = 0; k < left.intValueExact(); k++) {
                shares[order.get(k)] = shares[order.get(k)].add(BigInteger.ONE);
            }
            return shares;
        }

        long taken(int g, int n, boolean released) {
            if (!good(g) || n < 1) {
                throw new IllegalArgumentException();
            }
            if (stock(g).compareTo(big(n)) < 0) {
                return -1;
            }
            BigInteger[] t = take(g, big(n));
            if (!released) {
                discharged = discharged.add(t[0]);
                return t[0].longValueExact();
            }
            owed = owed.add(t[0]);
            interest = interest.add(t[1]);
            return t[0].add(t[1]).longValueExact();
        }

        int prior(int g, int n, int until) {
            if (!good(g) || n < 1 || n > 10000 || until < 0 || until > 100000) {
                throw new IllegalArgumentException();
            }
            if (priors.size() == 40) {
                throw new IllegalStateException();
            }
            Prior p = new Prior();
            p.good = g;
            p.left = big(n);
            p.until = until;
            priors.add(p);
            return priors.size();
        }

        boolean day(int to) {
            if (to < 0 || to > 100000 || to < today) {
                return false;
            }
            today = to;
            return true;
        }

        BigInteger[] ways(int p, int g) {
            if (p == g) {
                return new BigInteger[] {BigInteger.ONE, BigInteger.ONE};
            }
            BigInteger up = BigInteger.ZERO;
            BigInteger down = BigInteger.ONE;
            if (needs.get(p) != null) {
                for (Part need : needs.get(p)) {
                    BigInteger[] w = ways(need.good, g);
                    BigInteger below = w[1].multiply(need.down);
                    up = up.multiply(below).add(w[0].multiply(need.up).multiply(down));
                    down = down.multiply(below);
                }
            }
            return new BigInteger[] {up, down};
        }

        long chain(int p, int g, int side) {
            if (!good(p) || !good(g) || side < 0 || side > 1) {
                throw new IllegalArgumentException();
            }
            BigInteger[] w = ways(p, g);
            return w[side].divide(w[0].gcd(w[1])).longValueExact();
        }

        long look(int g, int what) {
            if (!good(g) || what < 0 || what > 7) {
                throw new IndexOutOfBoundsException();
            }
            switch (what) {
                case 0:
                    return stock(g).longValueExact();
                case 1:
                    return lots.stream().filter(l -> l.good == g).mapToLong(l -> l.debt.longValueExact()).sum();
                case 2:
                    return lots.stream().filter(l -> l.good == g && l.left.signum() > 0).count();
                case 3:
                    return needs.get(g) == null ? -1 : needs.get(g).size();
                case 4:
                    return outs.get(g) == null ? -1 : outs.get(g).size();
                case 5:
                    return depth(g);
                case 6:
                    return values[g];
                default:
                    return priors.stream().filter(p -> p.good == g && p.until >= today)
                        .mapToLong(p -> p.left.longValueExact()).sum();
            }
        }

        long lot(int i, int what) {
            if (i < 0 || i >= lots.size() || what < 0 || what > 3) {
                throw new IndexOutOfBoundsException();
            }
            Lot lot = lots.get(i);
            return new long[] {lot.good, lot.left.longValueExact(), lot.debt.longValueExact(), lot.day}[what];
        }

        long quotient(int out, int yield) {
            if (out < 0 || out > 1000000000 || yield < 0 || yield > 1000000000) {
                throw new IllegalArgumentException();
            }
            if (yield == 0) {
                throw new ArithmeticException();
            }
            return big(out).divide(big(yield)).longValueExact();
        }

        long sum(int what) {
            switch (what) {
                case 0:
                    return imported.longValueExact();
                case 1:
                    return discharged.longValueExact();
                case 2:
                    return owed.longValueExact();
                case 3:
                    return interest.longValueExact();
                case 4:
                    return imported.subtract(discharged).subtract(owed).longValueExact();
                default:
                    return -1;
            }
        }

        long count(int what) {
            switch (what) {
                case 0:
                    return lots.size();
                case 1:
                    return needs.stream().filter(n -> n != null).count();
                case 2:
                    return priors.size();
                case 3:
                    return today;
                default:
                    return -1;
            }
        }

        /** In the order of Watched.state(). */
        List<Long> state() {
            List<Long> all = new ArrayList<>();
            for (int what = 0; what <= 3; what++) {
                all.add(count(what));
            }
            for (int what = 0; what <= 4; what++) {
                all.add(sum(what));
            }
            for (int g = 0; g < 12; g++) {
                for (int what = 0; what <= 7; what++) {
                    all.add(look(g, what));
                }
                for (int other = 0; other < 12; other++) {
                    all.add(chain(g, other, 0));
                    all.add(chain(g, other, 1));
                }
            }
            for (int i = 0; i < lots.size(); i++) {
                for (int what = 0; what <= 3; what++) {
                    all.add(lot(i, what));
                }
            }
            return all;
        }
    }
}

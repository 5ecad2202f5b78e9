/** Promise by promise: ordinary inputs, the edges that the document names, and wrong inputs. */
public final class PromisesTest {
    private static final int LOW = Integer.MIN_VALUE;
    private static final int HIGH = Integer.MAX_VALUE;
    private static final int[] NO_GOODS = {-1, 12, 13, LOW, HIGH};

    public static void main(String[] args) {
        newObject();
        value();
        recipe();
        needs();
        needsRing();
        needsDepth();
        yields();
        in();
        inMeetsPriors();
        inIsFull();
        made();
        madeRounds();
        madeTakesSeveralLots();
        madeApportions();
        madeByValue();
        madeNeedsRoom();
        madeOfOwnByProduct();
        madeWithoutRefusedNeeds();
        export();
        release();
        releaseInterest();
        prior();
        day();
        chain();
        chainGreat();
        look();
        lot();
        sum();
        quotient();
        count();
        objectsAreApart();
        Check.end("PromisesTest");
    }

    // Promise 1
    private static void newObject() {
        Watched x = new Watched();
        Check.due("NONE", ProcessYields.NONE, -1);
        for (int what = 0; what <= 3; what++) {
            Check.due("new: count(" + what + ")", x.count(what), 0);
        }
        for (int what = 0; what <= 4; what++) {
            Check.due("new: sum(" + what + ")", x.sum(what), 0);
        }
        long[] first = {0, 0, 0, -1, -1, 0, 1, 0};
        for (int good = 0; good < 12; good++) {
            for (int what = 0; what < 8; what++) {
                Check.due("new: look(" + good + ", " + what + ")", x.look(good, what), first[what]);
            }
        }
        Check.dueThrow("new: lot(0, 0)", IndexOutOfBoundsException.class, () -> x.lot(0, 0));
    }

    // Promise 2
    private static void value() {
        Watched x = new Watched();
        Check.due("value(0, 0)", x.value(0, 0), true);
        Check.due("value(11, 10000)", x.value(11, 10000), true);
        Check.due("value(5, 77)", x.value(5, 77), true);
        Check.due("look(0, 6)", x.look(0, 6), 0);
        Check.due("look(11, 6)", x.look(11, 6), 10000);
        Check.due("look(5, 6)", x.look(5, 6), 77);
        Check.due("look(4, 6)", x.look(4, 6), 1);
        Check.due("value(5, 78)", x.value(5, 78), true);
        Check.due("look(5, 6)", x.look(5, 6), 78);
        for (int good : NO_GOODS) {
            Check.unchanged("value(" + good + ", 5)", x, 0, () -> x.value(good, 5) ? 1 : 0);
        }
        for (int cents : new int[] {-1, 10001, LOW, HIGH}) {
            Check.unchanged("value(5, " + cents + ")", x, 0, () -> x.value(5, cents) ? 1 : 0);
        }
    }

    // Promise 3
    private static void recipe() {
        Watched x = new Watched();
        for (int good = 0; good < 12; good++) {
            int product = good;
            Check.due("look before recipe", x.look(good, 3), -1);
            Check.due("recipe(" + good + ")", x.recipe(good), true);
            Check.due("look after recipe", x.look(good, 3), 0);
            Check.due("look after recipe", x.look(good, 4), 0);
            Check.due("count(1)", x.count(1), good + 1);
            Check.unchanged("recipe(" + good + ") again", x, 0, () -> x.recipe(product) ? 1 : 0);
        }
        for (int good : NO_GOODS) {
            Check.unchanged("recipe(" + good + ")", x, 0, () -> x.recipe(good) ? 1 : 0);
        }
    }

    // Promise 4
    private static void needs() {
        Watched x = new Watched();
        Check.unchanged("needs without a recipe", x, 0, () -> x.needs(5, 1, 1, 1));
        x.recipe(5);
        Check.unchanged("needs of the product itself", x, 0, () -> x.needs(5, 5, 1, 1));
        Check.due("needs(5, 0, 1, 12)", x.needs(5, 0, 1, 12), 1);
        Check.unchanged("needs told already", x, 0, () -> x.needs(5, 0, 2, 3));
        Check.due("needs(5, 11, 12, 1)", x.needs(5, 11, 12, 1), 1);
        Check.due("needs(5, 2, 12, 12)", x.needs(5, 2, 12, 12), 1);
        Check.due("look(5, 3)", x.look(5, 3), 3);
        Check.due("look(5, 5)", x.look(5, 5), 1);
        Check.due("needs(5, 3, 1, 1)", x.needs(5, 3, 1, 1), 1);
        Check.unchanged("a fifth need", x, 0, () -> x.needs(5, 4, 1, 1));
        Check.due("look(5, 3)", x.look(5, 3), 4);
        for (int good : NO_GOODS) {
            Check.illegalArgument("needs(" + good + ", 1, 1, 1)", x, () -> x.needs(good, 1, 1, 1));
            Check.illegalArgument("needs(5, " + good + ", 1, 1)", x, () -> x.needs(5, good, 1, 1));
        }
        for (int rate : new int[] {0, -1, 13, LOW, HIGH}) {
            Check.illegalArgument("needs with up " + rate, x, () -> x.needs(5, 1, rate, 1));
            Check.illegalArgument("needs with down " + rate, x, () -> x.needs(5, 1, 1, rate));
            Check.illegalArgument("needs without a recipe, up " + rate, x, () -> x.needs(6, 1, rate, 1));
        }
        x.recipe(6);
        Check.due("a by-product of its own", x.yields(6, 7, 1, 1), 1);
        Check.due("a by-product may be a need", x.needs(6, 7, 1, 1), 1);
    }

    private static void needsRing() {
        Watched x = new Watched();
        x.recipe(1);
        x.recipe(2);
        x.recipe(3);
        Check.due("needs(1, 2)", x.needs(1, 2, 1, 1), 1);
        Check.unchanged("a ring of two", x, 0, () -> x.needs(2, 1, 1, 1));
        Check.due("needs(2, 3)", x.needs(2, 3, 1, 1), 1);
        Check.unchanged("a ring of three", x, 0, () -> x.needs(3, 1, 1, 1));
        Check.unchanged("a ring of two, deeper", x, 0, () -> x.needs(3, 2, 1, 1));
        Check.due("by-products make no ring", x.yields(3, 1, 1, 1), 1);
        Check.due("what was refused takes no place", x.needs(3, 4, 1, 1), 1);
        Check.due("look(1, 5)", x.look(1, 5), 3);
        Check.due("two ways to one good are no ring", x.needs(1, 4, 1, 1), 1);
    }

    private static void needsDepth() {
        Watched x = new Watched();
        for (int good = 0; good < 12; good++) {
            x.recipe(good);
        }
        // The need is told at the bottom, and a good two above it would get too deep.
        Check.due("needs(9, 8)", x.needs(9, 8, 1, 1), 1);
        Check.due("needs(8, 7)", x.needs(8, 7, 1, 1), 1);
        Check.due("needs(1, 0)", x.needs(1, 0, 1, 1), 1);
        Check.unchanged("needs(7, 1): 9 would be 4 deep", x, 0, () -> x.needs(7, 1, 1, 1));
        Check.due("needs(7, 0)", x.needs(7, 0, 1, 1), 1);
        Check.due("look(9, 5)", x.look(9, 5), 3);
        Check.due("look(8, 5)", x.look(8, 5), 2);
        Check.due("look(7, 5)", x.look(7, 5), 1);
        Check.due("look(0, 5)", x.look(0, 5), 0);
        Check.unchanged("needs(10, 9): 4 deep", x, 0, () -> x.needs(10, 9, 1, 1));
        Check.unchanged("needs(0, 2): 9 would be 4 deep", x, 0, () -> x.needs(0, 2, 1, 1));
        Check.due("needs(10, 8)", x.needs(10, 8, 1, 1), 1);
        Check.due("look(10, 5)", x.look(10, 5), 3);
        Check.due("the greatest of its needs", x.needs(10, 2, 1, 1), 1);
        Check.due("look(10, 5)", x.look(10, 5), 3);
        Check.due("by-products have no depth", x.yields(11, 9, 1, 1), 1);
        Check.due("look(11, 5)", x.look(11, 5), 0);
        // Told from either end, with the numbers going up and going down.
        int[][] chains = {{0, 1, 2, 3, 4}, {4, 3, 2, 1, 0}, {6, 2, 9, 0, 11}};
        for (int[] goods : chains) {
            checkDepths(goods, new int[] {0, 1, 2, 3});
            checkDepths(goods, new int[] {3, 2, 1, 0});
            checkDepths(goods, new int[] {0, 3, 1, 2});
        }
    }

    /** Four needs that would make a way of four steps, in an order: the last one can't be. */
    private static void checkDepths(int[] goods, int[] order) {
        Watched x = new Watched();
        for (int good : goods) {
            x.recipe(good);
        }
        for (int k = 0; k < 3; k++) {
            Check.due("a way of three steps", x.needs(goods[order[k]], goods[order[k] + 1], 1, 1), 1);
        }
        int last = order[3];
        Check.unchanged("a way of four steps", x, 0, () -> x.needs(goods[last], goods[last + 1], 1, 1));
        Check.unchanged("a ring", x, 0, () -> x.needs(goods[order[0] + 1], goods[order[0]], 1, 1));
    }

    // Promise 5
    private static void yields() {
        Watched x = new Watched();
        Check.unchanged("yields without a recipe", x, 0, () -> x.yields(5, 1, 1, 1));
        x.recipe(5);
        Check.due("needs(5, 0)", x.needs(5, 0, 1, 1), 1);
        Check.unchanged("yields of the product itself", x, 0, () -> x.yields(5, 5, 1, 1));
        Check.due("a need may be a by-product", x.yields(5, 0, 12, 1), 1);
        Check.unchanged("yields told already", x, 0, () -> x.yields(5, 0, 1, 1));
        Check.due("yields(5, 11, 1, 12)", x.yields(5, 11, 1, 12), 1);
        Check.unchanged("a third by-product", x, 0, () -> x.yields(5, 3, 1, 1));
        Check.due("look(5, 4)", x.look(5, 4), 2);
        Check.due("look(5, 3)", x.look(5, 3), 1);
        for (int good : NO_GOODS) {
            Check.illegalArgument("yields(" + good + ", 1, 1, 1)", x, () -> x.yields(good, 1, 1, 1));
            Check.illegalArgument("yields(5, " + good + ", 1, 1)", x, () -> x.yields(5, good, 1, 1));
        }
        for (int rate : new int[] {0, -1, 13, LOW, HIGH}) {
            Check.illegalArgument("yields with up " + rate, x, () -> x.yields(5, 1, rate, 1));
            Check.illegalArgument("yields with down " + rate, x, () -> x.yields(5, 1, 1, rate));
        }
    }

    // Promise 6
    private static void in() {
        Watched x = new Watched();
        x.day(9);
        Check.due("in(0, 1, 0)", x.in(0, 1, 0), 0);
        Check.due("in(11, 10000, 1000000)", x.in(11, 10000, 1000000), 1);
        Check.due("lot(1, 0)", x.lot(1, 0), 11);
        Check.due("lot(1, 1)", x.lot(1, 1), 10000);
        Check.due("lot(1, 2)", x.lot(1, 2), 1000000);
        Check.due("lot(1, 3)", x.lot(1, 3), 9);
        Check.due("sum(0)", x.sum(0), 1000000);
        Check.due("sum(1)", x.sum(1), 0);
        for (int good : NO_GOODS) {
            Check.illegalArgument("in(" + good + ", 1, 1)", x, () -> x.in(good, 1, 1));
        }
        for (int n : new int[] {0, -1, 10001, LOW, HIGH}) {
            Check.illegalArgument("in(1, " + n + ", 1)", x, () -> x.in(1, n, 1));
        }
        for (int debt : new int[] {-1, 1000001, LOW, HIGH}) {
            Check.illegalArgument("in(1, 1, " + debt + ")", x, () -> x.in(1, 1, debt));
        }
    }

    private static void inMeetsPriors() {
        Watched x = new Watched();
        x.prior(3, 2, 5);
        x.prior(4, 100, 5);
        x.prior(3, 3, 4);
        x.prior(3, 4, 5);
        x.day(5);
        // The last day is included, the third one's is behind us, the second is of another good.
        Check.due("in(3, 7, 100)", x.in(3, 7, 100), 0);
        // FLOOR(100 * 2 / 7) = 28, then FLOOR(72 * 4 / 5) = 57.
        Check.due("sum(1)", x.sum(1), 85);
        Check.due("lot(0, 1)", x.lot(0, 1), 1);
        Check.due("lot(0, 2)", x.lot(0, 2), 15);
        Check.due("look(3, 7)", x.look(3, 7), 0);
        Check.due("look(4, 7)", x.look(4, 7), 100);
        Check.due("in(4, 60, 7)", x.in(4, 60, 7), 1);
        Check.due("sum(1)", x.sum(1), 92);
        Check.due("lot(1, 1)", x.lot(1, 1), 0);
        Check.due("lot(1, 2)", x.lot(1, 2), 0);
        Check.due("look(4, 7)", x.look(4, 7), 40);
        Check.due("in(3, 5, 50)", x.in(3, 5, 50), 2);
        Check.due("lot(2, 1): a met one is not met again", x.lot(2, 1), 5);
        x.day(6);
        Check.due("in(4, 60, 7)", x.in(4, 60, 7), 3);
        Check.due("lot(3, 1): behind us", x.lot(3, 1), 60);
        Check.due("sum(0)", x.sum(0), 164);
        x.prior(5, 2, 6);
        x.prior(5, 2, 6);
        Check.due("in(5, 3, 9): the last one of the lot, too", x.in(5, 3, 9), 4);
        Check.due("lot(4, 1)", x.lot(4, 1), 0);
        Check.due("look(5, 7)", x.look(5, 7), 1);
        Check.due("in(5, 1, 9): the last one of the export", x.in(5, 1, 9), 5);
        Check.due("look(5, 7)", x.look(5, 7), 0);
        Check.due("sum(1)", x.sum(1), 110);
    }

    private static void inIsFull() {
        Watched x = new Watched();
        for (int i = 0; i < 200; i++) {
            Check.due("in", x.in(i % 12, 1, i), i);
        }
        Check.illegalState("in when full", x, () -> x.in(0, 1, 1));
        Check.illegalArgument("in when full, no such good", x, () -> x.in(12, 1, 1));
        Check.illegalArgument("in when full, no such amount", x, () -> x.in(0, 0, 1));
        Check.illegalArgument("in when full, no such debt", x, () -> x.in(0, 1, -1));
        x.export(0, 1);
        Check.illegalState("in when full of lots with nothing left", x, () -> x.in(0, 1, 1));
        Check.due("count(0)", x.count(0), 200);
    }

    // Promise 7
    private static void made() {
        Watched x = new Watched();
        Check.illegalArgument("made without a recipe", x, () -> x.made(1, 1, false));
        x.recipe(1);
        x.yields(1, 2, 1, 1);
        Check.illegalArgument("made without needs", x, () -> x.made(1, 1, false));
        x.needs(1, 0, 1, 1);
        Check.unchanged("made without stock", x, 0, () -> x.made(1, 1, false));
        for (int good : NO_GOODS) {
            Check.illegalArgument("made(" + good + ", 1)", x, () -> x.made(good, 1, true));
        }
        for (int n : new int[] {0, -1, 10001, LOW, HIGH}) {
            Check.illegalArgument("made(1, " + n + ")", x, () -> x.made(1, n, false));
        }
        x.in(0, 10000, 999);
        x.day(40);
        Check.due("made(1, 10000)", x.made(1, 10000, false), 1);
        Check.due("count(0)", x.count(0), 3);
        Check.due("lot(1, 0)", x.lot(1, 0), 1);
        Check.due("lot(1, 1)", x.lot(1, 1), 10000);
        Check.due("lot(1, 2)", x.lot(1, 2), 500);
        Check.due("lot(1, 3)", x.lot(1, 3), 40);
        Check.due("lot(2, 0)", x.lot(2, 0), 2);
        Check.due("lot(2, 1)", x.lot(2, 1), 10000);
        Check.due("lot(2, 2)", x.lot(2, 2), 499);
        Check.due("lot(2, 3)", x.lot(2, 3), 40);
        Check.due("lot(0, 1)", x.lot(0, 1), 0);
        x.prior(1, 5, 100);
        x.in(0, 5, 5);
        Check.due("made(1, 5)", x.made(1, 5, false), 1);
        Check.due("what is made meets no prior export", x.look(1, 0), 10005);
        Check.due("sum(0): making imports nothing", x.sum(0), 1004);
    }

    private static void madeRounds() {
        Watched x = new Watched();
        x.recipe(3);
        x.needs(3, 0, 5, 7);
        x.needs(3, 1, 7, 5);
        x.yields(3, 4, 1, 12);
        x.yields(3, 5, 5, 12);
        x.in(0, 8, 80);
        x.in(1, 15, 150);
        // CEIL(11 * 5 / 7) = 8, CEIL(11 * 7 / 5) = 16.
        Check.unchanged("made(3, 11): the second need does not suffice", x, 0, () -> x.made(3, 11, false));
        x.in(1, 1, 10);
        Check.unchanged("made(3, 12): the first need does not suffice", x, 0, () -> x.made(3, 12, false));
        Check.due("made(3, 11)", x.made(3, 11, false), 1);
        Check.due("look(0, 0)", x.look(0, 0), 0);
        Check.due("look(1, 0)", x.look(1, 0), 0);
        // FLOOR(11 / 12) = 0 has no lot, FLOOR(55 / 12) = 4.
        Check.due("count(0)", x.count(0), 5);
        Check.due("lot(3, 2)", x.lot(3, 2), 176);
        Check.due("lot(4, 0)", x.lot(4, 0), 5);
        Check.due("lot(4, 1)", x.lot(4, 1), 4);
        Check.due("lot(4, 2)", x.lot(4, 2), 64);
    }

    private static void madeTakesSeveralLots() {
        Watched x = new Watched();
        x.recipe(2);
        x.needs(2, 7, 1, 1);
        x.in(7, 3, 10);
        x.in(6, 9, 9);
        x.in(7, 3, 11);
        x.in(7, 3, 12);
        Check.due("made(2, 4)", x.made(2, 4, false), 1);
        Check.due("lot(0, 2)", x.lot(0, 2), 0);
        Check.due("lot(2, 1)", x.lot(2, 1), 2);
        Check.due("lot(2, 2): 11 less FLOOR(11 / 3)", x.lot(2, 2), 8);
        Check.due("lot(3, 1)", x.lot(3, 1), 3);
        Check.due("lot(1, 1)", x.lot(1, 1), 9);
        Check.due("lot(4, 2)", x.lot(4, 2), 13);
    }

    private static void madeApportions() {
        // 10 cents on 7, 7 and 3: 70 / 17, 70 / 17 and 30 / 17: 4, 4, 1 and remainders 2, 2, 13.
        checkShares(7, 1, 1, 3, 7, 10, new long[] {4, 4, 2});
        // 8 cents on 5, 5 and 5: 2 each, two cents left for equal remainders: the first two.
        checkShares(5, 1, 1, 1, 1, 8, new long[] {3, 3, 2});
        // 7 cents on 5, 5 and 5: one cent left, to the product.
        checkShares(5, 1, 1, 1, 1, 7, new long[] {3, 2, 2});
        // 5 cents on 2, 3 and 3: 10 / 8, 15 / 8, 15 / 8: 1, 1, 1 and both cents to the by-products.
        checkShares(2, 3, 2, 3, 2, 5, new long[] {1, 2, 2});
        // 4 cents on 2, 3 and 3: 8 / 8, 12 / 8, 12 / 8: the cent goes to the one that was told first.
        checkShares(2, 3, 2, 3, 2, 4, new long[] {1, 2, 1});
        checkShares(4, 1, 2, 3, 4, 0, new long[] {0, 0, 0});
    }

    private static void checkShares(int n, int up1, int down1, int up2, int down2, int debt, long[] want) {
        Watched x = new Watched();
        x.recipe(0);
        x.needs(0, 1, 1, 1);
        x.yields(0, 3, up1, down1);
        x.yields(0, 2, up2, down2);
        x.in(1, n, debt);
        Check.due("made", x.made(0, n, false), 1);
        for (int i = 0; i < 3; i++) {
            Check.due("share " + i + " of " + debt + " cents on " + n, x.lot(1 + i, 2), want[i]);
        }
        Check.due("lot(2, 0)", x.lot(2, 0), 3);
        Check.due("lot(3, 0)", x.lot(3, 0), 2);
    }

    private static void madeByValue() {
        Watched x = new Watched();
        x.recipe(0);
        x.needs(0, 1, 1, 1);
        x.yields(0, 2, 12, 1);
        x.yields(0, 3, 12, 1);
        x.value(0, 10000);
        x.value(2, 10000);
        x.value(3, 9999);
        x.value(1, 0);
        for (int i = 0; i < 150; i++) {
            x.in(1, 1, 1000000);
        }
        x.in(1, 9850, 0);
        // 1.5 * 10^8 cents by 10000 * 10000, 120000 * 10000 and 120000 * 9999.
        Check.due("made(0, 10000, true)", x.made(0, 10000, true), 1);
        Check.due("lot(151, 2)", x.lot(151, 2), 6000288L);
        Check.due("lot(152, 2)", x.lot(152, 2), 72003456L);
        Check.due("lot(153, 2)", x.lot(153, 2), 71996256L);
        Check.due("sum(4)", x.sum(4), 150000000L);

        Watched y = new Watched();
        y.recipe(0);
        y.needs(0, 1, 1, 1);
        y.yields(0, 2, 1, 1);
        y.in(1, 20, 99);
        y.value(0, 0);
        y.value(2, 0);
        Check.due("made by no value at all", y.made(0, 10, true), 1);
        Check.due("all goes to the product", y.lot(1, 2), 49);
        Check.due("none to the by-product", y.lot(2, 2), 0);
        Check.due("made by amounts, whatever the values", y.made(0, 10, false), 1);
        Check.due("lot(3, 2)", y.lot(3, 2), 25);
        Check.due("lot(4, 2)", y.lot(4, 2), 25);
    }

    private static void madeNeedsRoom() {
        Watched x = new Watched();
        x.recipe(0);
        x.needs(0, 1, 1, 1);
        x.yields(0, 2, 1, 2);
        x.yields(0, 3, 1, 3);
        for (int i = 0; i < 197; i++) {
            x.in(1, 2, 5);
        }
        Check.due("made(0, 1): one lot", x.made(0, 1, false), 1);
        Check.due("count(0)", x.count(0), 198);
        Check.unchanged("made(0, 3): three lots have no room", x, 0, () -> x.made(0, 3, false));
        Check.due("made(0, 2): two lots", x.made(0, 2, false), 1);
        Check.due("count(0)", x.count(0), 200);
        Check.unchanged("made(0, 1): no room", x, 0, () -> x.made(0, 1, false));
        Check.illegalArgument("made(0, 0) without room", x, () -> x.made(0, 0, false));
    }

    private static void madeOfOwnByProduct() {
        Watched x = new Watched();
        x.recipe(0);
        x.needs(0, 1, 2, 1);
        x.yields(0, 1, 1, 1);
        x.in(1, 6, 60);
        Check.unchanged("what comes of it does not count as stock", x, 0, () -> x.made(0, 4, false));
        Check.due("made(0, 3)", x.made(0, 3, false), 1);
        Check.due("look(1, 0)", x.look(1, 0), 3);
        Check.due("look(1, 1)", x.look(1, 1), 30);
        Check.due("look(1, 2)", x.look(1, 2), 1);
    }

    private static void madeWithoutRefusedNeeds() {
        Watched x = new Watched();
        x.recipe(0);
        x.recipe(1);
        x.needs(0, 1, 1, 1);
        x.needs(1, 2, 1, 1);
        Check.due("a ring", x.needs(1, 0, 1, 1), 0);
        x.in(2, 5, 50);
        Check.due("made(1, 5): good 0 is no need of it", x.made(1, 5, false), 1);
        x.in(0, 5, 50);
        x.in(2, 5, 50);
        Check.due("made(1, 5)", x.made(1, 5, false), 1);
        Check.due("look(0, 0)", x.look(0, 0), 5);
        Check.due("look(1, 1)", x.look(1, 1), 100);
    }

    // Promise 8
    private static void export() {
        Watched x = new Watched();
        Check.unchanged("export without stock", x, -1, () -> x.export(4, 1));
        x.in(4, 3, 10);
        x.in(5, 3, 100);
        x.in(4, 3, 20);
        Check.unchanged("export of too much", x, -1, () -> x.export(4, 7));
        Check.unchanged("export of far too much", x, -1, () -> x.export(4, HIGH));
        Check.due("export(4, 1)", x.export(4, 1), 3);
        Check.due("lot(0, 2)", x.lot(0, 2), 7);
        Check.due("export(4, 3): all of one lot, a part of the next", x.export(4, 3), 13);
        Check.due("lot(0, 1)", x.lot(0, 1), 0);
        Check.due("lot(2, 2)", x.lot(2, 2), 14);
        x.day(100);
        Check.due("export(4, 2): all, without interest", x.export(4, 2), 14);
        Check.due("sum(1)", x.sum(1), 30);
        Check.due("sum(2)", x.sum(2), 0);
        Check.due("sum(3)", x.sum(3), 0);
        x.in(6, 5, 0);
        Check.due("export(6, 2) without a debt", x.export(6, 2), 0);
        Check.due("is taken all the same", x.look(6, 0), 3);
        for (int good : NO_GOODS) {
            Check.illegalArgument("export(" + good + ", 1)", x, () -> x.export(good, 1));
        }
        for (int n : new int[] {0, -1, LOW}) {
            Check.illegalArgument("export(5, " + n + ")", x, () -> x.export(5, n));
        }
    }

    // Promise 9
    private static void release() {
        Watched x = new Watched();
        Check.unchanged("release without stock", x, -1, () -> x.release(4, 1));
        x.in(4, 3, 1000);
        Check.unchanged("release of too much", x, -1, () -> x.release(4, 4));
        Check.unchanged("release of far too much", x, -1, () -> x.release(4, HIGH));
        Check.due("release(4, 1) on its day: no interest", x.release(4, 1), 333);
        Check.due("sum(2)", x.sum(2), 333);
        Check.due("sum(3)", x.sum(3), 0);
        Check.due("sum(1)", x.sum(1), 0);
        x.in(6, 5, 0);
        Check.due("release(6, 2) without a debt", x.release(6, 2), 0);
        Check.due("is taken all the same", x.look(6, 0), 3);
        for (int good : NO_GOODS) {
            Check.illegalArgument("release(" + good + ", 1)", x, () -> x.release(good, 1));
        }
        for (int n : new int[] {0, -1, LOW}) {
            Check.illegalArgument("release(4, " + n + ")", x, () -> x.release(4, n));
        }
    }

    private static void releaseInterest() {
        int[] days = {0, 1, 29, 30, 31, 60, 61, 100000};
        long[] months = {0, 1, 1, 1, 2, 2, 3, 3334};
        for (int i = 0; i < days.length; i++) {
            Watched x = new Watched();
            x.in(0, 10, 10000);
            x.day(days[i]);
            Check.due("release after " + days[i], x.release(0, 10), 10000 + 100 * months[i]);
            Check.due("sum(2) after " + days[i], x.sum(2), 10000);
            Check.due("sum(3) after " + days[i], x.sum(3), 100 * months[i]);
        }
        Watched x = new Watched();
        x.in(0, 10, 150);
        x.day(20);
        x.in(0, 10, 150);
        x.day(40);
        x.in(0, 10, 90);
        x.day(50);
        // FLOOR(150 * 2 / 100) + FLOOR(150 * 1 / 100) + FLOOR(90 * 1 / 100): each lot's part by itself.
        Check.due("release(0, 30)", x.release(0, 30), 390 + 3 + 1);
        Check.due("sum(3)", x.sum(3), 4);
        // What is made has the day on which it was made.
        Watched y = new Watched();
        y.recipe(1);
        y.needs(1, 0, 1, 1);
        y.in(0, 1, 100000);
        y.day(300);
        y.made(1, 1, true);
        y.day(301);
        Check.due("release(1, 1)", y.release(1, 1), 101000);
    }

    // Promise 10
    private static void prior() {
        Watched x = new Watched();
        x.day(7);
        Check.due("prior(0, 1, 0)", x.prior(0, 1, 0), 1);
        Check.due("prior(11, 10000, 100000)", x.prior(11, 10000, 100000), 2);
        Check.due("look(0, 7): behind us", x.look(0, 7), 0);
        Check.due("look(11, 7)", x.look(11, 7), 10000);
        Check.due("prior(11, 5, 7)", x.prior(11, 5, 7), 3);
        Check.due("look(11, 7): the last day is included", x.look(11, 7), 10005);
        x.day(8);
        Check.due("look(11, 7): and no day more", x.look(11, 7), 10000);
        for (int good : NO_GOODS) {
            Check.illegalArgument("prior(" + good + ", 1, 9)", x, () -> x.prior(good, 1, 9));
        }
        for (int n : new int[] {0, -1, 10001, LOW, HIGH}) {
            Check.illegalArgument("prior(1, " + n + ", 9)", x, () -> x.prior(1, n, 9));
        }
        for (int day : new int[] {-1, 100001, LOW, HIGH}) {
            Check.illegalArgument("prior(1, 1, " + day + ")", x, () -> x.prior(1, 1, day));
        }
        x.in(1, 5, 50);
        x.prior(1, 5, 9);
        Check.due("a prior export takes nothing of lots that are there", x.look(1, 0), 5);
        for (int i = 5; i <= 40; i++) {
            Check.due("prior", x.prior(2, 1, 9), i);
        }
        Check.illegalState("a 41st prior", x, () -> x.prior(2, 1, 9));
        Check.illegalArgument("a 41st prior, no such good", x, () -> x.prior(12, 1, 9));
        Check.illegalArgument("a 41st prior, no such amount", x, () -> x.prior(2, 0, 9));
        Check.illegalArgument("a 41st prior, no such day", x, () -> x.prior(2, 1, -1));
        x.in(2, 100, 0);
        Check.due("look(2, 7)", x.look(2, 7), 0);
        Check.due("look(2, 0)", x.look(2, 0), 64);
        Check.illegalState("those that are met count too", x, () -> x.prior(2, 1, 9));
    }

    // Promise 11
    private static void day() {
        Watched x = new Watched();
        Check.due("day(0)", x.day(0), true);
        Check.unchanged("day(-1)", x, 0, () -> x.day(-1) ? 1 : 0);
        Check.due("day(5)", x.day(5), true);
        Check.due("count(3)", x.count(3), 5);
        Check.due("day(5) again", x.day(5), true);
        for (int day : new int[] {4, 0, -1, 100001, LOW, HIGH}) {
            Check.unchanged("day(" + day + ")", x, 0, () -> x.day(day) ? 1 : 0);
        }
        Check.due("day(100000)", x.day(100000), true);
        Check.due("count(3)", x.count(3), 100000);
        Check.due("day(100000) again", x.day(100000), true);
    }

    // Promise 12
    private static void chain() {
        Watched x = new Watched();
        checkChain(x, 0, 0, 1, 1);
        checkChain(x, 0, 1, 0, 1);
        x.recipe(9);
        x.recipe(8);
        x.recipe(7);
        x.needs(9, 8, 2, 3);
        x.needs(9, 7, 6, 4);
        x.needs(8, 0, 3, 4);
        x.needs(7, 0, 5, 6);
        x.needs(7, 1, 12, 12);
        x.yields(9, 0, 1, 1);
        x.yields(9, 2, 1, 1);
        checkChain(x, 9, 8, 2, 3);
        checkChain(x, 9, 7, 3, 2);
        checkChain(x, 7, 1, 1, 1);
        checkChain(x, 9, 1, 3, 2);
        // 2/3 * 3/4 + 3/2 * 5/6 = 1/2 + 5/4
        checkChain(x, 9, 0, 7, 4);
        x.needs(9, 0, 1, 4);
        checkChain(x, 9, 0, 2, 1);
        checkChain(x, 9, 2, 0, 1);
        checkChain(x, 0, 9, 0, 1);
        checkChain(x, 9, 9, 1, 1);
        checkChain(x, 8, 7, 0, 1);
        x.recipe(0);
        x.needs(0, 11, 10, 12);
        checkChain(x, 0, 11, 5, 6);
        checkChain(x, 9, 11, 5, 3);
        for (int good : NO_GOODS) {
            Check.illegalArgument("chain(" + good + ", 0, 0)", x, () -> x.chain(good, 0, 0));
            Check.illegalArgument("chain(9, " + good + ", 0)", x, () -> x.chain(9, good, 0));
        }
        for (int side : new int[] {-1, 2, LOW, HIGH}) {
            Check.illegalArgument("chain(9, 0, " + side + ")", x, () -> x.chain(9, 0, side));
        }
    }

    private static void checkChain(Watched x, int product, int good, long above, long below) {
        Check.due("chain(" + product + ", " + good + ", 0)", x.chain(product, good, 0), above);
        Check.due("chain(" + product + ", " + good + ", 1)", x.chain(product, good, 1), below);
    }

    /** Four ways at each of three depths, by rates that share little: long sums, exact all the same. */
    private static void chainGreat() {
        Watched x = new Watched();
        int[] downs = {7, 8, 9, 11};
        for (int good = 3; good < 12; good++) {
            x.recipe(good);
        }
        for (int k = 0; k < 4; k++) {
            x.needs(11, 7 + k, 12, downs[k]);
            for (int j = 0; j < 4; j++) {
                x.needs(7 + k, 3 + j, 5 + k, downs[(j + k) % 4]);
            }
            x.needs(3 + k, 0, 11, downs[3 - k]);
        }
        // 12 / d(k) * (5 + k) / d(j + k) * 11 / d(3 - j), over all j and k: reckoned apart from the class.
        java.math.BigInteger up = java.math.BigInteger.ZERO;
        java.math.BigInteger line = java.math.BigInteger.valueOf(5544).pow(3);
        for (int k = 0; k < 4; k++) {
            for (int j = 0; j < 4; j++) {
                long rates = 12L * (5 + k) * 11;
                long below = (long) downs[k] * downs[(j + k) % 4] * downs[3 - j];
                up = up.add(line.multiply(java.math.BigInteger.valueOf(rates)).divide(java.math.BigInteger.valueOf(below)));
            }
        }
        java.math.BigInteger shared = up.gcd(line);
        checkChain(x, 11, 0, up.divide(shared).longValueExact(), line.divide(shared).longValueExact());
    }

    // Promise 13
    private static void look() {
        Watched x = new Watched();
        x.recipe(2);
        x.needs(2, 3, 1, 1);
        x.needs(2, 4, 1, 1);
        x.yields(2, 5, 1, 1);
        x.in(2, 5, 11);
        x.in(2, 6, 13);
        x.in(3, 100, 1000);
        x.export(2, 5);
        x.value(2, 44);
        x.prior(2, 8, 3);
        x.prior(2, 9, 2);
        x.prior(3, 7, 3);
        long[] want = {6, 13, 1, 2, 1, 1, 44, 17};
        for (int what = 0; what < 8; what++) {
            Check.due("look(2, " + what + ")", x.look(2, what), want[what]);
        }
        x.day(3);
        Check.due("look(2, 7)", x.look(2, 7), 8);
        x.export(2, 5);
        x.in(3, 8, 500);
        x.in(3, 9, 5);
        Check.due("look(2, 2): one of a lot is left", x.look(2, 2), 1);
        Check.due("look(3, 2)", x.look(3, 2), 3);
        Check.due("look(3, 1)", x.look(3, 1), 1068);
        Check.due("look(3, 3) without a recipe", x.look(3, 3), -1);
        Check.due("look(3, 4) without a recipe", x.look(3, 4), -1);
        for (int good : NO_GOODS) {
            Check.outOfBounds("look(" + good + ", 0)", x, () -> x.look(good, 0));
        }
        for (int what : new int[] {-1, 8, LOW, HIGH}) {
            Check.outOfBounds("look(0, " + what + ")", x, () -> x.look(0, what));
        }
    }

    // Promise 14
    private static void lot() {
        Watched x = new Watched();
        x.day(3);
        x.in(7, 5, 11);
        Check.due("look(7, 1) of lot 0", x.look(7, 1), 11);
        Check.due("look(7, 2) of lot 0", x.look(7, 2), 1);
        x.day(4);
        x.export(7, 2);
        long[] want = {7, 3, 7, 3};
        for (int what = 0; what < 4; what++) {
            Check.due("lot(0, " + what + ")", x.lot(0, what), want[what]);
        }
        for (int i : new int[] {-1, 1, 199, 200, LOW, HIGH}) {
            Check.outOfBounds("lot(" + i + ", 0)", x, () -> x.lot(i, 0));
        }
        for (int what : new int[] {-1, 4, LOW, HIGH}) {
            Check.outOfBounds("lot(0, " + what + ")", x, () -> x.lot(0, what));
        }
    }

    // Promise 15
    private static void sum() {
        Watched x = new Watched();
        x.prior(0, 1, 0);
        x.in(0, 10, 1000);
        x.in(1, 10, 500);
        x.export(1, 1);
        x.day(31);
        x.release(0, 4);
        long[] want = {1500, 150, 400, 8, 950};
        for (int what = 0; what < 5; what++) {
            Check.due("sum(" + what + ")", x.sum(what), want[what]);
        }
        for (int what : new int[] {-1, 5, LOW, HIGH}) {
            Check.due("sum(" + what + ")", x.sum(what), -1);
        }
    }

    // Promise 16
    private static void quotient() {
        Watched x = new Watched();
        Check.due("quotient(0, 1)", x.quotient(0, 1), 0);
        Check.due("quotient(9, 10)", x.quotient(9, 10), 0);
        Check.due("quotient(19, 10)", x.quotient(19, 10), 1);
        Check.due("quotient(20, 10)", x.quotient(20, 10), 2);
        Check.due("quotient(1000000000, 1)", x.quotient(1000000000, 1), 1000000000);
        Check.due("quotient(1000000000, 1000000000)", x.quotient(1000000000, 1000000000), 1);
        Check.due("quotient(999999999, 1000000000)", x.quotient(999999999, 1000000000), 0);
        Check.dueThrow("quotient(0, 0)", ArithmeticException.class, () -> x.quotient(0, 0));
        Check.dueThrow("quotient(1000000000, 0)", ArithmeticException.class, () -> x.quotient(1000000000, 0));
        for (int bad : new int[] {-1, 1000000001, LOW, HIGH}) {
            Check.illegalArgument("quotient(" + bad + ", 1)", x, () -> x.quotient(bad, 1));
            Check.illegalArgument("quotient(" + bad + ", 0)", x, () -> x.quotient(bad, 0));
            Check.illegalArgument("quotient(1, " + bad + ")", x, () -> x.quotient(1, bad));
        }
    }

    // Promise 17
    private static void count() {
        Watched x = new Watched();
        x.recipe(1);
        x.recipe(2);
        x.prior(0, 5, 0);
        x.prior(0, 5, 0);
        x.prior(0, 5, 0);
        x.in(0, 1, 1);
        x.day(77);
        int[] want = {1, 2, 3, 77};
        for (int what = 0; what < 4; what++) {
            Check.due("count(" + what + ")", x.count(what), want[what]);
        }
        for (int what : new int[] {-1, 4, LOW, HIGH}) {
            Check.due("count(" + what + ")", x.count(what), -1);
        }
    }

    private static void objectsAreApart() {
        Watched x = new Watched();
        Watched y = new Watched();
        x.recipe(1);
        x.needs(1, 0, 1, 2);
        x.in(0, 5, 5);
        x.prior(0, 5, 5);
        x.value(0, 5);
        x.day(5);
        Check.holds("another object is still new", y.state().equals(new Watched().state()));
    }
}

import java.util.List;
import java.util.function.Supplier;

/**
 * The edges that the promises name, call by call: the last argument that is allowed and the first that is
 * not, each exception and which one of several is thrown, and on a new, an ordinary and a full object that
 * a refused call changes nothing. What the document's "Terms" name is in TermsEdgesTest.
 */
public final class CallsEdgesTest {
    private static final int LOW = Integer.MIN_VALUE;
    private static final int HIGH = Integer.MAX_VALUE;

    private static final int[] NO_GOODS = {-1, 12, LOW, HIGH};
    private static final int[] NO_RATES = {0, 13, -1, LOW, HIGH};
    private static final int[] NO_AMOUNTS = {0, 10001, -1, LOW, HIGH};
    private static final int[] NO_DEBTS = {-1, 1000001, LOW, HIGH};
    private static final int[] NO_DAYS = {-1, 100001, LOW, HIGH};
    private static final int[] NO_SIDES = {-1, 2, LOW, HIGH};
    private static final int[] NO_OPERANDS = {-1, 1000000001, LOW, HIGH};

    private final String name;
    private final Supplier<Watched> scene;

    private CallsEdgesTest(String name, Supplier<Watched> scene) {
        this.name = name;
        this.scene = scene;
    }

    public static void main(String[] args) {
        new CallsEdgesTest("new", Watched::new).refusals();
        new CallsEdgesTest("ordinary", CallsEdgesTest::ordinary).refusals();
        new CallsEdgesTest("full", CallsEdgesTest::full).refusals();
        newObject();
        value();
        recipe();
        needs();
        yields();
        in();
        made();
        exportAndRelease();
        prior();
        day();
        chain();
        look();
        lot();
        sum();
        quotient();
        count();
        fullObjectGoesOn();
        Check.end("CallsEdgesTest");
    }

    /** Good 0 can be made, it has lots of which some are used up, debts of each kind, and prior exports of each kind. */
    private static Watched ordinary() {
        Watched x = new Watched();
        x.recipe(0);
        x.recipe(4);
        x.needs(0, 1, 3, 2);
        x.needs(0, 4, 1, 5);
        x.needs(4, 5, 1, 1);
        x.yields(0, 2, 1, 2);
        x.value(0, 50);
        x.prior(1, 3, 0);
        x.prior(1, 3, 1);
        x.prior(1, 9, 40);
        x.in(1, 5, 77);
        x.in(1, 50, 1001);
        x.in(5, 8, 99);
        x.day(3);
        x.made(4, 5, false);
        x.made(0, 7, true);
        x.export(0, 2);
        x.day(35);
        x.release(0, 3);
        x.prior(7, 2, 99);
        return x;
    }

    /** All that can be had: recipes, parts, depths, lots, prior exports, and the last day. */
    private static Watched full() {
        Watched x = new Watched();
        for (int good = 0; good < 12; good++) {
            x.recipe(good);
        }
        x.needs(2, 1, 1, 1);
        x.needs(1, 0, 1, 1);
        for (int need = 2; need <= 5; need++) {
            x.needs(11, need, need, 12);
        }
        x.yields(11, 0, 1, 1);
        x.yields(11, 1, 1, 1);
        for (int i = 0; i < 200; i++) {
            x.in(i % 12, 10, i);
        }
        x.day(100000);
        for (int i = 0; i < 40; i++) {
            x.prior(i % 12, 1, i % 2 == 0 ? 100000 : 0);
        }
        return x;
    }

    /** Calls whose arguments can't be in any state. */
    private void refusals() {
        refusedParts();
        refusedLots();
        refusedDays();
        refusedReadings();
        refusedSums();
    }

    private void refusedParts() {
        for (int good : NO_GOODS) {
            answers("value(" + good + ", 5)", 0, x -> x.value(good, 5) ? 1 : 0);
            answers("recipe(" + good + ")", 0, x -> x.recipe(good) ? 1 : 0);
            illegal("needs(" + good + ", 6, 1, 1)", x -> x.needs(good, 6, 1, 1));
            illegal("needs(0, " + good + ", 1, 1)", x -> x.needs(0, good, 1, 1));
            illegal("needs(" + good + ", " + good + ", 1, 1)", x -> x.needs(good, good, 1, 1));
            illegal("yields(" + good + ", 6, 1, 1)", x -> x.yields(good, 6, 1, 1));
            illegal("yields(0, " + good + ", 1, 1)", x -> x.yields(0, good, 1, 1));
            illegal("yields(" + good + ", " + good + ", 1, 1)", x -> x.yields(good, good, 1, 1));
        }
        for (int cents : new int[] {-1, 10001, LOW, HIGH}) {
            answers("value(0, " + cents + ")", 0, x -> x.value(0, cents) ? 1 : 0);
        }
        for (int rate : NO_RATES) {
            illegal("needs(0, 6, " + rate + ", 1)", x -> x.needs(0, 6, rate, 1));
            illegal("needs(0, 6, 1, " + rate + ")", x -> x.needs(0, 6, 1, rate));
            illegal("yields(0, 6, " + rate + ", 1)", x -> x.yields(0, 6, rate, 1));
            illegal("yields(0, 6, 1, " + rate + ")", x -> x.yields(0, 6, 1, rate));
        }
    }

    private void refusedLots() {
        for (int good : NO_GOODS) {
            illegal("in(" + good + ", 1, 1)", x -> x.in(good, 1, 1));
            illegal("made(" + good + ", 1, true)", x -> x.made(good, 1, true));
            illegal("export(" + good + ", 1)", x -> x.export(good, 1));
            illegal("release(" + good + ", 1)", x -> x.release(good, 1));
        }
        for (int n : NO_AMOUNTS) {
            illegal("in(0, " + n + ", 1)", x -> x.in(0, n, 1));
            illegal("made(0, " + n + ", false)", x -> x.made(0, n, false));
            illegal("made(11, " + n + ", true)", x -> x.made(11, n, true));
        }
        for (int debt : NO_DEBTS) {
            illegal("in(0, 1, " + debt + ")", x -> x.in(0, 1, debt));
        }
        for (int n : new int[] {0, -1, LOW}) {
            illegal("export(0, " + n + ")", x -> x.export(0, n));
            illegal("release(0, " + n + ")", x -> x.release(0, n));
        }
        answers("export(0, " + HIGH + ")", -1, x -> x.export(0, HIGH));
        answers("release(0, " + HIGH + ")", -1, x -> x.release(0, HIGH));
    }

    private void refusedDays() {
        for (int good : NO_GOODS) {
            illegal("prior(" + good + ", 1, 1)", x -> x.prior(good, 1, 1));
        }
        for (int n : NO_AMOUNTS) {
            illegal("prior(0, " + n + ", 1)", x -> x.prior(0, n, 1));
        }
        for (int day : NO_DAYS) {
            illegal("prior(0, 1, " + day + ")", x -> x.prior(0, 1, day));
            answers("day(" + day + ")", 0, x -> x.day(day) ? 1 : 0);
        }
    }

    private void refusedReadings() {
        for (int good : NO_GOODS) {
            illegal("chain(" + good + ", 0, 0)", x -> x.chain(good, 0, 0));
            illegal("chain(0, " + good + ", 1)", x -> x.chain(0, good, 1));
            illegal("chain(" + good + ", " + good + ", 0)", x -> x.chain(good, good, 0));
            outOfBounds("look(" + good + ", 0)", x -> x.look(good, 0));
            outOfBounds("look(" + good + ", 8)", x -> x.look(good, 8));
        }
        for (int side : NO_SIDES) {
            illegal("chain(0, 1, " + side + ")", x -> x.chain(0, 1, side));
            illegal("chain(0, 0, " + side + ")", x -> x.chain(0, 0, side));
        }
        for (int what : new int[] {-1, 8, LOW, HIGH}) {
            outOfBounds("look(0, " + what + ")", x -> x.look(0, what));
        }
        for (int i : new int[] {-1, 200, LOW, HIGH}) {
            outOfBounds("lot(" + i + ", 0)", x -> x.lot(i, 0));
        }
        for (int what : new int[] {-1, 4, LOW, HIGH}) {
            outOfBounds("lot(0, " + what + ")", x -> x.lot(0, what));
            outOfBounds("lot(-1, " + what + ")", x -> x.lot(-1, what));
        }
    }

    private void refusedSums() {
        for (int what : new int[] {-1, 5, LOW, HIGH}) {
            answers("sum(" + what + ")", -1, x -> x.sum(what));
        }
        for (int what : new int[] {-1, 4, LOW, HIGH}) {
            answers("count(" + what + ")", -1, x -> x.count(what));
        }
        for (int operand : NO_OPERANDS) {
            illegal("quotient(" + operand + ", 1)", x -> x.quotient(operand, 1));
            illegal("quotient(1, " + operand + ")", x -> x.quotient(1, operand));
            illegal("quotient(" + operand + ", 0)", x -> x.quotient(operand, 0));
            illegal("quotient(0, " + operand + ")", x -> x.quotient(0, operand));
        }
        Watched x = scene.get();
        List<Long> before = x.state();
        Check.dueThrow(name + ": quotient(0, 0)", ArithmeticException.class, () -> x.quotient(0, 0));
        Check.dueThrow(name + ": quotient(1, 0)", ArithmeticException.class, () -> x.quotient(1, 0));
        Check.dueThrow(name + ": quotient(1000000000, 0)", ArithmeticException.class, () -> x.quotient(1000000000, 0));
        Check.holds(name + ": quotient by 0 changes nothing", before.equals(x.state()));
    }

    private interface Told {
        long to(Watched x);
    }

    private void answers(String call, long want, Told told) {
        Watched x = scene.get();
        Check.unchanged(name + ": " + call, x, want, () -> told.to(x));
    }

    private void illegal(String call, Told told) {
        Watched x = scene.get();
        Check.illegalArgument(name + ": " + call, x, () -> told.to(x));
    }

    private void outOfBounds(String call, Told told) {
        Watched x = scene.get();
        Check.outOfBounds(name + ": " + call, x, () -> told.to(x));
    }

    // Promise 1: "No recipes, lots; TODAY 0."
    private static void newObject() {
        Watched x = new Watched();
        for (int what = 0; what <= 3; what++) {
            Check.due("new: count(" + what + ")", x.count(what), 0);
        }
        for (int what = 0; what <= 4; what++) {
            Check.due("new: sum(" + what + ")", x.sum(what), 0);
        }
        long[] want = {0, 0, 0, -1, -1, 0, 1, 0};
        for (int good = 0; good < 12; good++) {
            for (int what = 0; what <= 7; what++) {
                Check.due("new: look(" + good + ", " + what + ")", x.look(good, what), want[what]);
            }
        }
        for (int good = 0; good < 12; good++) {
            for (int other = 0; other < 12; other++) {
                Check.due("new: chain(" + good + ", " + other + ", 0)", x.chain(good, other, 0), good == other ? 1 : 0);
            }
        }
        for (int good = 0; good < 12; good++) {
            int g = good;
            Watched y = new Watched();
            Check.unchanged("new: export(" + g + ", 1)", y, -1, () -> y.export(g, 1));
            Check.unchanged("new: release(" + g + ", 1)", y, -1, () -> y.release(g, 1));
            Check.unchanged("new: needs of " + g, y, 0, () -> y.needs(g, (g + 1) % 12, 1, 1));
            Check.unchanged("new: yields of " + g, y, 0, () -> y.yields(g, (g + 1) % 12, 1, 1));
            Check.illegalArgument("new: made(" + g + ", 1)", y, () -> y.made(g, 1, false));
        }
        Check.outOfBounds("new: lot(0, 0)", x, () -> x.lot(0, 0));
    }

    // Promise 2
    private static void value() {
        Watched x = new Watched();
        for (int good = 0; good < 12; good++) {
            Check.due("value(" + good + ", " + (10000 - good) + ")", x.value(good, 10000 - good), true);
        }
        for (int good = 0; good < 12; good++) {
            Check.due("look(" + good + ", 6)", x.look(good, 6), 10000 - good);
            Check.due("value(" + good + ", 0)", x.value(good, 0), true);
            Check.due("look(" + good + ", 6)", x.look(good, 6), 0);
        }
        Check.due("the same value again", x.value(3, 0), true);
        Check.unchanged("value(12, 10001)", x, 0, () -> x.value(12, 10001) ? 1 : 0);
    }

    // Promise 3: "false if there is no such good, or it has one."
    private static void recipe() {
        Watched x = new Watched();
        for (int good = 11; good >= 0; good--) {
            int g = good;
            Check.due("recipe(" + g + ")", x.recipe(g), true);
            Check.due("count(1)", x.count(1), 12 - g);
            Check.due("look(" + g + ", 3)", x.look(g, 3), 0);
            Check.due("look(" + g + ", 4)", x.look(g, 4), 0);
            Check.unchanged("recipe(" + g + ") again", x, 0, () -> x.recipe(g) ? 1 : 0);
        }
        Check.unchanged("recipe(12) when all have one", x, 0, () -> x.recipe(12) ? 1 : 0);
        Check.unchanged("recipe(-1) when all have one", x, 0, () -> x.recipe(-1) ? 1 : 0);
    }

    // Promise 4: "0 if it can't be: no recipe ..", and the exception before the 0
    private static void needs() {
        Watched x = new Watched();
        x.recipe(1);
        Check.unchanged("the need has a recipe, the product has none", x, 0, () -> x.needs(2, 1, 1, 1));
        Check.due("the product has one, the need none", x.needs(1, 2, 1, 1), 1);
        Check.illegalArgument("no recipe and no such rate", x, () -> x.needs(3, 2, 0, 1));
        Check.illegalArgument("no recipe and no such good", x, () -> x.needs(3, 12, 1, 1));
        Check.illegalArgument("the product itself and no such rate", x, () -> x.needs(1, 1, 1, 13));
        Check.illegalArgument("told already and no such rate", x, () -> x.needs(1, 2, 13, 1));
        x.recipe(2);
        Check.illegalArgument("a ring and no such rate", x, () -> x.needs(2, 1, 1, 0));
        Check.unchanged("a ring", x, 0, () -> x.needs(2, 1, 12, 12));
        x.needs(1, 3, 1, 1);
        x.needs(1, 4, 1, 1);
        x.needs(1, 5, 1, 1);
        Check.illegalArgument("there are 4 and no such rate", x, () -> x.needs(1, 6, 0, 0));
        Check.unchanged("there are 4", x, 0, () -> x.needs(1, 6, 1, 1));
        Check.unchanged("there are 4, and told already", x, 0, () -> x.needs(1, 2, 1, 1));
        Check.unchanged("there are 4, and the product itself", x, 0, () -> x.needs(1, 1, 1, 1));
        x.recipe(6);
        x.recipe(7);
        x.needs(6, 1, 1, 1);
        x.needs(7, 6, 1, 1);
        Check.illegalArgument("too deep and no such rate", x, () -> x.needs(2, 8, 13, 13));
        Check.unchanged("too deep", x, 0, () -> x.needs(2, 8, 1, 1));
        for (int need = 2; need <= 5; need++) {
            x.in(need, 1, 1);
        }
        Check.due("what was refused is not needed", x.made(1, 1, false), 1);
    }

    // Promise 5: "0 if it can't be: no recipe ..", "IllegalArgumentException as needs()"
    private static void yields() {
        Watched x = new Watched();
        x.recipe(1);
        Check.unchanged("the by-product has a recipe, the product has none", x, 0, () -> x.yields(2, 1, 1, 1));
        Check.due("the product has one, the by-product none", x.yields(1, 2, 1, 12), 1);
        Check.illegalArgument("no recipe and no such rate", x, () -> x.yields(3, 2, 0, 1));
        Check.illegalArgument("no recipe and no such good", x, () -> x.yields(3, -1, 1, 1));
        Check.illegalArgument("the product itself and no such rate", x, () -> x.yields(1, 1, 1, 13));
        Check.illegalArgument("told already and no such rate", x, () -> x.yields(1, 2, 13, 1));
        x.recipe(2);
        Check.due("a ring by by-products may be", x.yields(2, 1, 12, 1), 1);
        Check.due("the second by-product", x.yields(1, 11, 1, 1), 1);
        Check.illegalArgument("there are 2 and no such rate", x, () -> x.yields(1, 6, 0, 0));
        Check.unchanged("there are 2", x, 0, () -> x.yields(1, 6, 1, 1));
        Check.unchanged("there are 2, and told already", x, 0, () -> x.yields(1, 2, 1, 1));
        Check.unchanged("there are 2, and the product itself", x, 0, () -> x.yields(1, 1, 1, 1));
    }

    // Promise 6: "n is not 1 .. 10000, or the debt not 0 .. 1000000; IllegalStateException if there are 200 lots"
    private static void in() {
        Watched x = new Watched();
        Check.due("in(0, 1, 0)", x.in(0, 1, 0), 0);
        Check.due("in(0, 10000, 1000000)", x.in(0, 10000, 1000000), 1);
        Check.due("in(11, 1, 1000000)", x.in(11, 1, 1000000), 2);
        Check.due("in(11, 10000, 0)", x.in(11, 10000, 0), 3);
        Check.due("look(0, 0)", x.look(0, 0), 10001);
        Check.due("look(11, 1)", x.look(11, 1), 1000000);
        Check.due("sum(0)", x.sum(0), 2000000);
        for (int i = 4; i < 199; i++) {
            x.in(5, 1, 1);
        }
        Check.due("the last lot", x.in(6, 10000, 1000000), 199);
        Check.illegalState("one too many", x, () -> x.in(6, 10000, 1000000));
        Check.illegalState("one too many, the smallest", x, () -> x.in(0, 1, 0));
        Check.illegalArgument("full and no such good", x, () -> x.in(-1, 1, 1));
        Check.illegalArgument("full and no such good", x, () -> x.in(12, 1, 1));
        Check.illegalArgument("full and n 0", x, () -> x.in(0, 0, 1));
        Check.illegalArgument("full and n 10001", x, () -> x.in(0, 10001, 1));
        Check.illegalArgument("full and debt -1", x, () -> x.in(0, 1, -1));
        Check.illegalArgument("full and debt 1000001", x, () -> x.in(0, 1, 1000001));
    }

    // Promise 7: "no such good with a recipe that has needs, or n is not 1 .. 10000", and the exception before the 0
    private static void made() {
        Watched x = new Watched();
        Check.illegalArgument("no recipe", x, () -> x.made(3, 1, true));
        x.in(3, 5, 5);
        x.recipe(2);
        x.needs(2, 3, 1, 1);
        Check.illegalArgument("a need without a recipe", x, () -> x.made(3, 1, true));
        x.recipe(3);
        Check.illegalArgument("a recipe without needs", x, () -> x.made(3, 1, true));
        x.yields(3, 4, 1, 1);
        Check.illegalArgument("a recipe with by-products alone", x, () -> x.made(3, 1, true));
        Check.unchanged("a need refused", x, 0, () -> x.needs(3, 2, 1, 1));
        Check.illegalArgument("is no need", x, () -> x.made(3, 1, true));
        Check.unchanged("one more than the stock", x, 0, () -> x.made(2, 6, true));
        Check.unchanged("the most", x, 0, () -> x.made(2, 10000, true));
        Check.illegalArgument("more than that, whatever the stock", x, () -> x.made(2, 10001, true));
        Check.illegalArgument("n 0, though there is stock", x, () -> x.made(2, 0, true));
        Check.due("n 1", x.made(2, 1, true), 1);
        x.in(3, 9996, 0);
        Check.due("n 10000", x.made(2, 10000, true), 1);
        Check.unchanged("n 1 without stock", x, 0, () -> x.made(2, 1, true));
        Watched y = full();
        Check.unchanged("no room", y, 0, () -> y.made(11, 1, true));
        Check.illegalArgument("no room and n 0", y, () -> y.made(11, 0, true));
        Check.illegalArgument("no room and no needs", y, () -> y.made(10, 1, true));
        Check.unchanged("no room and no stock", y, 0, () -> y.made(11, 10000, true));
    }

    // Promises 8 and 9: "NONE if the STOCK does not suffice", "n is below 1"
    private static void exportAndRelease() {
        for (int n = 1; n <= 4; n++) {
            int amount = n;
            Watched x = new Watched();
            x.in(2, 1, 10);
            x.in(2, 2, 20);
            Watched y = new Watched();
            y.in(2, 1, 10);
            y.in(2, 2, 20);
            if (n <= 3) {
                Check.due("export(2, " + n + ") of 3", x.export(2, n), 10 * n);
                Check.due("release(2, " + n + ") of 3", y.release(2, n), 10 * n);
                Check.due("export leaves", x.look(2, 0), 3 - n);
                Check.due("release leaves", y.look(2, 0), 3 - n);
            } else {
                Check.unchanged("export(2, 4) of 3", x, -1, () -> x.export(2, amount));
                Check.unchanged("release(2, 4) of 3", y, -1, () -> y.release(2, amount));
            }
        }
        Watched x = new Watched();
        x.in(2, 3, 30);
        Check.unchanged("another good's stock does not count", x, -1, () -> x.export(3, 1));
        Check.unchanged("another good's stock does not count", x, -1, () -> x.release(3, 1));
        Check.illegalArgument("n 0, though there is stock", x, () -> x.export(2, 0));
        Check.illegalArgument("n 0, though there is stock", x, () -> x.release(2, 0));
        Check.illegalArgument("n 0, and there is no stock", x, () -> x.export(3, 0));
        Check.illegalArgument("n 0, and there is no stock", x, () -> x.release(3, 0));
        x.in(4, 2, 0);
        Check.due("a debt of 0 is no refusal", x.export(4, 1), 0);
        Check.due("a debt of 0 is no refusal", x.release(4, 1), 0);
        Check.due("both are taken", x.look(4, 0), 0);
    }

    // Promise 10: "n (1 .. 10000)", "(40 at most)", "day (0 .. 100000)", "IllegalStateException if there are 40"
    private static void prior() {
        Watched x = new Watched();
        Check.due("prior(0, 1, 0)", x.prior(0, 1, 0), 1);
        Check.due("prior(0, 10000, 100000)", x.prior(0, 10000, 100000), 2);
        Check.due("look(0, 7)", x.look(0, 7), 10001);
        Check.due("prior(11, 10000, 0)", x.prior(11, 10000, 0), 3);
        Check.due("prior(11, 1, 100000)", x.prior(11, 1, 100000), 4);
        x.day(1);
        Check.due("look(11, 7)", x.look(11, 7), 1);
        x.in(11, 1, 1);
        for (int i = 5; i <= 39; i++) {
            Check.due("prior " + i, x.prior(3, 1, 0), i);
        }
        Check.due("the last one", x.prior(4, 10000, 100000), 40);
        Check.due("count(2)", x.count(2), 40);
        Check.due("look(4, 7)", x.look(4, 7), 10000);
        Check.illegalState("one too many, though some are met or behind us", x, () -> x.prior(4, 10000, 100000));
        Check.illegalState("one too many, the smallest", x, () -> x.prior(0, 1, 0));
        Check.illegalArgument("full and no such good", x, () -> x.prior(-1, 1, 1));
        Check.illegalArgument("full and no such good", x, () -> x.prior(12, 1, 1));
        Check.illegalArgument("full and n 0", x, () -> x.prior(0, 0, 1));
        Check.illegalArgument("full and n 10001", x, () -> x.prior(0, 10001, 1));
        Check.illegalArgument("full and day -1", x, () -> x.prior(0, 1, -1));
        Check.illegalArgument("full and day 100001", x, () -> x.prior(0, 1, 100001));
        x.in(4, 10000, 7);
        Check.due("the fortieth is met", x.look(4, 7), 0);
        Check.due("sum(1)", x.sum(1), 8);
    }

    // Promise 11: "It is a day (0 .. 100000)", "or ahead of TODAY"
    private static void day() {
        Watched x = new Watched();
        Check.unchanged("day(-1)", x, 0, () -> x.day(-1) ? 1 : 0);
        Check.unchanged("day(100001)", x, 0, () -> x.day(100001) ? 1 : 0);
        Check.unchanged("day(0) is today", x, 1, () -> x.day(0) ? 1 : 0);
        Check.due("day(1)", x.day(1), true);
        Check.due("count(3)", x.count(3), 1);
        Check.unchanged("day(0) was yesterday", x, 0, () -> x.day(0) ? 1 : 0);
        Check.unchanged("day(1) is today", x, 1, () -> x.day(1) ? 1 : 0);
        Check.due("day(99999)", x.day(99999), true);
        Check.unchanged("day(99998)", x, 0, () -> x.day(99998) ? 1 : 0);
        Check.due("day(100000)", x.day(100000), true);
        Check.due("count(3)", x.count(3), 100000);
        Check.unchanged("day(100001)", x, 0, () -> x.day(100001) ? 1 : 0);
        Check.unchanged("day(99999)", x, 0, () -> x.day(99999) ? 1 : 0);
        Check.unchanged("day(100000) is today", x, 1, () -> x.day(100000) ? 1 : 0);
        Watched y = new Watched();
        Check.due("at once to the last day", y.day(100000), true);
    }

    // Promise 12: "reduced: side 0: above, 1: below the line (0 / 1 if there is none)"
    private static void chain() {
        for (int up = 1; up <= 12; up++) {
            for (int down = 1; down <= 12; down++) {
                Watched x = new Watched();
                x.recipe(0);
                x.needs(0, 11, up, down);
                int shared = java.math.BigInteger.valueOf(up).gcd(java.math.BigInteger.valueOf(down)).intValue();
                Check.due("above of " + up + " / " + down, x.chain(0, 11, 0), up / shared);
                Check.due("below of " + up + " / " + down, x.chain(0, 11, 1), down / shared);
                Check.due("above of none", x.chain(11, 0, 0), 0);
                Check.due("below of none", x.chain(11, 0, 1), 1);
                Check.due("above of itself", x.chain(0, 0, 0), 1);
                Check.due("below of itself", x.chain(0, 0, 1), 1);
            }
        }
        Watched x = ordinary();
        Check.unchanged("chain changes nothing", x, 3, () -> x.chain(0, 1, 0));
    }

    // Promise 13: "(3, 4: NONE without a recipe)", "7: what is left of its open PRIOR exports"
    private static void look() {
        Watched x = ordinary();
        // Good 1: 3 of the first prior export, 2 of the second by lot 0; 1 of it and 9 of the third by lot 1; 40
        // were left of that, and the making of good 0 took 11.
        long[][] want = {{2, 2, 1, 2, 50, 0}, {29, -1, -1, 0, 1, 0}, {3, -1, -1, 0, 1, 0}, {0, -1, -1, 0, 1, 0}, {3, 1, 0, 1, 1, 0},
            {3, -1, -1, 0, 1, 0}, {0, -1, -1, 0, 1, 0}, {0, -1, -1, 0, 1, 2}};
        int[] whats = {0, 3, 4, 5, 6, 7};
        for (int good = 0; good < want.length; good++) {
            for (int k = 0; k < whats.length; k++) {
                Check.due("look(" + good + ", " + whats[k] + ")", x.look(good, whats[k]), want[good][k]);
            }
        }
        // The debts: see the parts that were taken of 801, 99 and 61, and the shares 242 and 2 of 220 + 24.
        long[] debts = {70, 581, 2, 0, 37, 38, 0, 0};
        for (int good = 0; good < debts.length; good++) {
            Check.due("look(" + good + ", 1)", x.look(good, 1), debts[good]);
        }
        Check.due("look(1, 2): the first lot is used up", x.look(1, 2), 1);
        Check.due("look(0, 2)", x.look(0, 2), 1);
        Check.due("look(7, 2)", x.look(7, 2), 0);
        x.export(0, 2);
        Check.due("look(0, 2) behind the last one", x.look(0, 2), 0);
        Check.due("look(0, 1) behind the last one", x.look(0, 1), 0);
        Check.unchanged("look changes nothing", x, 2, () -> x.look(7, 7));
        Watched first = new Watched();
        first.in(9, 5, 50);
        Check.due("the first lot's debt", first.look(9, 1), 50);
        Check.due("the first lot's amount", first.look(9, 0), 5);
        Check.due("the first lot", first.look(9, 2), 1);
        x.day(99);
        Check.due("the last day of a prior export", x.look(7, 7), 2);
        x.day(100);
        Check.due("the day behind it", x.look(7, 7), 0);
    }

    // Promise 14: "IndexOutOfBoundsException if there is none such"
    private static void lot() {
        Watched x = new Watched();
        for (int i = 0; i < 3; i++) {
            int next = i;
            Check.outOfBounds("lot(" + next + ", 0) is not there yet", x, () -> x.lot(next, 0));
            x.in(9, 5 + i, 50 + i);
            Check.due("lot(" + i + ", 0)", x.lot(i, 0), 9);
            Check.due("lot(" + i + ", 1)", x.lot(i, 1), 5 + i);
            Check.due("lot(" + i + ", 2)", x.lot(i, 2), 50 + i);
            Check.due("lot(" + i + ", 3)", x.lot(i, 3), 2 * i);
            Check.outOfBounds("lot(" + next + ", -1)", x, () -> x.lot(next, -1));
            Check.outOfBounds("lot(" + next + ", 4)", x, () -> x.lot(next, 4));
            x.day(2 * i + 2);
        }
        x.export(9, 18);
        Check.due("a lot that is used up is there", x.lot(2, 1), 0);
        Check.unchanged("lot changes nothing", x, 4, () -> x.lot(2, 3));
        Watched y = full();
        Check.due("the last of 200", y.lot(199, 2), 199);
        Check.due("the last of 200", y.lot(199, 0), 7);
        Check.outOfBounds("one behind it", y, () -> y.lot(200, 0));
    }

    // Promise 15: "NONE for another what"
    private static void sum() {
        Watched x = new Watched();
        x.prior(0, 5, 0);
        x.in(0, 10, 1000);
        x.day(1);
        x.release(0, 1);
        x.export(0, 1);
        // 500 to the prior export, 100 owed and 1 of interest, 100 to the export.
        long[] want = {-1, 1000, 600, 100, 1, 300, -1};
        for (int what = -1; what <= 5; what++) {
            Check.due("sum(" + what + ")", x.sum(what), want[what + 1]);
        }
        Check.unchanged("sum changes nothing", x, 300, () -> x.sum(4));
        Watched y = new Watched();
        for (int i = 0; i < 200; i++) {
            y.in(0, 1, 1000000);
        }
        Check.due("sum(0) of the most", y.sum(0), 200000000);
        Check.due("sum(4) of the most", y.sum(4), 200000000);
        y.export(0, 200);
        Check.due("sum(1) of the most", y.sum(1), 200000000);
        Check.due("sum(4) of none", y.sum(4), 0);
        Check.due("sum(0) stays", y.sum(0), 200000000);
    }

    // Promise 16: "out / yield, rounded down", "they are not 0 .. 1000000000", "ArithmeticException for a yield of 0"
    private static void quotient() {
        int most = 1000000000;
        int[][] cases = {{0, 1, 0}, {0, most, 0}, {1, 1, 1}, {1, 2, 0}, {2, 2, 1}, {3, 2, 1}, {most, 1, most}, {most, most, 1},
            {most - 1, most, 0}, {most, most - 1, 1}, {most, 2, 500000000}, {most, 3, 333333333}, {most - 1, 3, 333333333}};
        for (int[] one : cases) {
            Watched x = ordinary();
            Check.unchanged("quotient(" + one[0] + ", " + one[1] + ")", x, one[2], () -> x.quotient(one[0], one[1]));
        }
        Watched x = new Watched();
        Check.dueThrow("quotient(0, 0)", ArithmeticException.class, () -> x.quotient(0, 0));
        Check.dueThrow("quotient(1000000000, 0)", ArithmeticException.class, () -> x.quotient(most, 0));
        Check.dueThrow("quotient(-1, 0): the first of two", IllegalArgumentException.class, () -> x.quotient(-1, 0));
        Check.dueThrow("quotient(1000000001, 0): the first of two", IllegalArgumentException.class, () -> x.quotient(most + 1, 0));
        Check.dueThrow("quotient(0, -1)", IllegalArgumentException.class, () -> x.quotient(0, -1));
        Check.dueThrow("quotient(0, 1000000001)", IllegalArgumentException.class, () -> x.quotient(0, most + 1));
    }

    // Promise 17: "NONE for another what"
    private static void count() {
        Watched x = full();
        int[] want = {-1, 200, 12, 40, 100000, -1};
        for (int what = -1; what <= 4; what++) {
            Check.due("full: count(" + what + ")", x.count(what), want[what + 1]);
        }
        Check.unchanged("count changes nothing", x, 12, () -> x.count(1));
    }

    /** Nothing more has room, but what is there can still be used. */
    private static void fullObjectGoesOn() {
        Watched x = full();
        Check.illegalState("full: in", x, () -> x.in(0, 1, 1));
        Check.illegalState("full: prior", x, () -> x.prior(0, 1, 100000));
        Check.unchanged("full: made", x, 0, () -> x.made(11, 1, false));
        Check.unchanged("full: recipe", x, 0, () -> x.recipe(5) ? 1 : 0);
        Check.unchanged("full: needs", x, 0, () -> x.needs(11, 6, 1, 1));
        Check.unchanged("full: yields", x, 0, () -> x.yields(11, 6, 1, 1));
        Check.unchanged("full: day(99999)", x, 0, () -> x.day(99999) ? 1 : 0);
        Check.due("full: value", x.value(11, 10000), true);
        Check.due("full: day(100000)", x.day(100000), true);
        // Lots 5, 17, .. 197: 17 of them, 10 each.
        Check.due("full: look(5, 0)", x.look(5, 0), 170);
        Check.unchanged("full: export of too much", x, -1, () -> x.export(5, 171));
        Check.due("full: export", x.export(5, 15), 5 + 8);
        Check.due("full: release", x.release(5, 5), 9 + 300);
        Check.due("full: look(5, 0)", x.look(5, 0), 150);
        Check.due("full: chain", x.chain(11, 0, 1), 6);
        Check.illegalState("full: in, with lots used up", x, () -> x.in(5, 1, 1));
    }
}

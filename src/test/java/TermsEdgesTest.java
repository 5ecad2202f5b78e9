/**
 * The edges that the document's "Terms" name, sentence by sentence: each method stands for the words
 * above it. The edges of the calls' own arguments and exceptions are in CallsEdgesTest.
 */
public final class TermsEdgesTest {
    public static void main(String[] args) {
        goods();
        recipes();
        depths();
        lots();
        taking();
        imports();
        making();
        apportioning();
        exportsAndReleases();
        chains();
        Check.end("TermsEdgesTest");
    }

    private static void goods() {
        goodsHaveNumbersZeroToEleven();
        valuesGoFromZeroToTenThousand();
        valueIsOneAtFirst();
        todayIsZeroAtFirst();
    }

    // "GOODS 0 .. 11"
    private static void goodsHaveNumbersZeroToEleven() {
        for (int good : new int[] {0, 11}) {
            int other = 11 - good;
            Watched x = new Watched();
            Check.due("value of good " + good, x.value(good, 3), true);
            Check.due("recipe of good " + good, x.recipe(good), true);
            Check.due("need of good " + good, x.needs(good, other, 1, 1), 1);
            Check.due("by-product of good " + good, x.yields(good, other, 1, 1), 1);
            Check.due("import of good " + other, x.in(other, 5, 10), 0);
            Check.due("making of good " + good, x.made(good, 2, false), 1);
            Check.due("export of good " + good, x.export(good, 1), 1);
            Check.due("release of good " + good, x.release(good, 1), 1);
            Check.due("prior export of good " + good, x.prior(good, 1, 0), 1);
            Check.due("chain of good " + good, x.chain(good, other, 0), 1);
            Check.due("look at good " + good, x.look(good, 6), 3);
        }
    }

    // "have a VALUE (0 .. 10000 cents"
    private static void valuesGoFromZeroToTenThousand() {
        Watched x = new Watched();
        Check.due("value(3, 10000)", x.value(3, 10000), true);
        Check.due("look(3, 6)", x.look(3, 6), 10000);
        Check.unchanged("value(3, 10001)", x, 0, () -> x.value(3, 10001) ? 1 : 0);
        Check.due("value(3, 0)", x.value(3, 0), true);
        Check.due("look(3, 6)", x.look(3, 6), 0);
        Check.unchanged("value(3, -1)", x, 0, () -> x.value(3, -1) ? 1 : 0);
    }

    // "1 at first"
    private static void valueIsOneAtFirst() {
        Watched x = new Watched();
        for (int good = 0; good < 12; good++) {
            Check.due("the first value of good " + good, x.look(good, 6), 1);
        }
        byProducts(x, 1, 1, 1, 1);
        x.in(1, 5, 9);
        Check.due("made by first values", x.made(0, 3, true), 1);
        Check.due("is as by amounts", x.lot(1, 2), 2);
    }

    // "TODAY is a day (0 at first)"
    private static void todayIsZeroAtFirst() {
        Watched x = new Watched();
        Check.due("count(3)", x.count(3), 0);
        x.in(0, 1, 1);
        Check.due("the day of a lot on the first day", x.lot(0, 3), 0);
    }

    private static void recipes() {
        oneRecipeForAProduct();
        fourNeedsAtMost();
        noNeedIsTheProduct();
        eachNeedOnce();
        twoByProductsAtMost();
        noByProductIsTheProduct();
        eachByProductOnce();
        aNeedMayBeAByProduct();
        ratesGoFromOneToTwelve();
    }

    // "A RECIPE is a product's (a good; one at most)"
    private static void oneRecipeForAProduct() {
        Watched x = new Watched();
        Check.due("recipe(11)", x.recipe(11), true);
        Check.unchanged("recipe(11) again", x, 0, () -> x.recipe(11) ? 1 : 0);
        x.needs(11, 1, 2, 3);
        x.yields(11, 2, 2, 3);
        Check.unchanged("recipe(11) with parts in it", x, 0, () -> x.recipe(11) ? 1 : 0);
        Check.due("count(1)", x.count(1), 1);
    }

    // "It has NEEDS (4 goods at most"
    private static void fourNeedsAtMost() {
        for (int product : new int[] {0, 5, 11}) {
            Watched x = new Watched();
            x.recipe(product);
            Check.due("no needs at first", x.look(product, 3), 0);
            for (int k = 1; k <= 4; k++) {
                Check.due("need " + k + " of " + product, x.needs(product, (product + k) % 12, 1, 1), 1);
                Check.due("look(" + product + ", 3)", x.look(product, 3), k);
            }
            int fifth = (product + 5) % 12;
            Check.unchanged("a fifth need of " + product, x, 0, () -> x.needs(product, fifth, 1, 1));
            Check.due("four needs leave room for by-products", x.yields(product, fifth, 1, 1), 1);
            x.recipe(fifth);
            Check.due("and for another product's needs", x.needs(fifth, (product + 6) % 12, 1, 1), 1);
        }
    }

    // "not the product" (of NEEDS)
    private static void noNeedIsTheProduct() {
        for (int product = 0; product < 12; product++) {
            int p = product;
            Watched x = new Watched();
            x.recipe(p);
            Check.unchanged("needs(" + p + ", " + p + ")", x, 0, () -> x.needs(p, p, 1, 1));
        }
    }

    // "each once" (of NEEDS)
    private static void eachNeedOnce() {
        Watched x = new Watched();
        x.recipe(5);
        x.recipe(6);
        x.needs(5, 0, 2, 3);
        x.needs(5, 1, 2, 3);
        x.needs(5, 2, 2, 3);
        for (int told = 0; told <= 2; told++) {
            int good = told;
            Check.unchanged("needs(5, " + good + ") told already", x, 0, () -> x.needs(5, good, 2, 3));
            Check.unchanged("needs(5, " + good + ") told at another rate", x, 0, () -> x.needs(5, good, 12, 1));
        }
        Check.due("what was refused takes no place", x.needs(5, 3, 1, 1), 1);
        Check.due("another product may have the same need", x.needs(6, 0, 1, 1), 1);
    }

    // "and BY-PRODUCTS (2 at most"
    private static void twoByProductsAtMost() {
        for (int product : new int[] {0, 5, 11}) {
            Watched x = new Watched();
            x.recipe(product);
            Check.due("no by-products at first", x.look(product, 4), 0);
            for (int k = 1; k <= 2; k++) {
                Check.due("by-product " + k + " of " + product, x.yields(product, (product + k) % 12, 1, 1), 1);
                Check.due("look(" + product + ", 4)", x.look(product, 4), k);
            }
            int third = (product + 3) % 12;
            Check.unchanged("a third by-product of " + product, x, 0, () -> x.yields(product, third, 1, 1));
            Check.due("two by-products leave room for needs", x.needs(product, third, 1, 1), 1);
            x.recipe(third);
            Check.due("and for another product's by-products", x.yields(third, product, 1, 1), 1);
        }
    }

    // "not the product" (of BY-PRODUCTS)
    private static void noByProductIsTheProduct() {
        for (int product = 0; product < 12; product++) {
            int p = product;
            Watched x = new Watched();
            x.recipe(p);
            Check.unchanged("yields(" + p + ", " + p + ")", x, 0, () -> x.yields(p, p, 1, 1));
        }
    }

    // "each once" (of BY-PRODUCTS)
    private static void eachByProductOnce() {
        Watched x = new Watched();
        x.recipe(5);
        x.recipe(6);
        x.yields(5, 0, 2, 3);
        Check.unchanged("yields(5, 0) told already", x, 0, () -> x.yields(5, 0, 2, 3));
        Check.unchanged("yields(5, 0) told at another rate", x, 0, () -> x.yields(5, 0, 12, 1));
        Check.due("what was refused takes no place", x.yields(5, 1, 2, 3), 1);
        Check.due("another product may have the same by-product", x.yields(6, 0, 1, 1), 1);
    }

    // "a need may be one, too"
    private static void aNeedMayBeAByProduct() {
        Watched x = new Watched();
        x.recipe(5);
        Check.due("needs(5, 0)", x.needs(5, 0, 2, 1), 1);
        Check.due("yields(5, 0) behind it", x.yields(5, 0, 1, 1), 1);
        Check.due("yields(5, 1)", x.yields(5, 1, 1, 1), 1);
        Check.due("needs(5, 1) behind it", x.needs(5, 1, 2, 1), 1);
        x.in(0, 4, 4);
        x.in(1, 4, 4);
        Check.due("made(5, 2)", x.made(5, 2, false), 1);
        Check.due("look(0, 0)", x.look(0, 0), 2);
        Check.due("look(1, 0)", x.look(1, 0), 2);
    }

    // "each up / down (1 .. 12 each) for one of the product"
    private static void ratesGoFromOneToTwelve() {
        for (int up = 1; up <= 12; up++) {
            for (int down = 1; down <= 12; down++) {
                Watched x = new Watched();
                x.recipe(0);
                Check.due("needs at " + up + " / " + down, x.needs(0, 1, up, down), 1);
                Check.due("yields at " + up + " / " + down, x.yields(0, 2, up, down), 1);
                Check.due("the rate as it was told", x.chain(0, 1, 0) * down, x.chain(0, 1, 1) * up);
                x.in(1, 144, 0);
                Check.due("made at " + up + " / " + down, x.made(0, 12, false), 1);
                Check.due("taken at " + up + " / " + down, x.look(1, 0), 144 - (12 * up + down - 1) / down);
                Check.due("come at " + up + " / " + down, x.look(2, 0), 12 * up / down);
            }
        }
    }

    private static void depths() {
        depthIsZeroWithoutNeeds();
        depthIsOneAndTheGreatestOfItsNeeds();
        depthIsNoMoreThanThree();
        depthOfAnyGoodIsNoMoreThanThree();
        thereIsNoRing();
        manyWaysAreNoRing();
    }

    // "DEPTH of a good is 0 without needs"
    private static void depthIsZeroWithoutNeeds() {
        Watched x = new Watched();
        Check.due("without a recipe", x.look(4, 5), 0);
        x.recipe(4);
        Check.due("with an empty recipe", x.look(4, 5), 0);
        x.yields(4, 5, 1, 1);
        Check.due("with a by-product alone", x.look(4, 5), 0);
        Check.due("of a by-product", x.look(5, 5), 0);
        x.needs(4, 6, 1, 1);
        Check.due("with a need", x.look(4, 5), 1);
        Check.due("of that need", x.look(6, 5), 0);
    }

    // "else 1 and the greatest of its needs"
    private static void depthIsOneAndTheGreatestOfItsNeeds() {
        Watched x = withRecipes();
        x.needs(1, 0, 1, 1);
        x.needs(2, 1, 1, 1);
        x.needs(3, 0, 1, 1);
        Check.due("one of depth 0", x.look(3, 5), 1);
        x.needs(3, 1, 1, 1);
        Check.due("and one of depth 1", x.look(3, 5), 2);
        x.needs(3, 2, 1, 1);
        Check.due("and one of depth 2", x.look(3, 5), 3);
        x.needs(3, 4, 1, 1);
        Check.due("and one more of depth 0", x.look(3, 5), 3);
        x.needs(5, 6, 1, 1);
        x.needs(7, 5, 1, 1);
        Check.due("two above", x.look(7, 5), 2);
        x.needs(6, 8, 1, 1);
        Check.due("a need told below lifts what is above", x.look(7, 5), 3);
    }

    // "no more than 3"
    private static void depthIsNoMoreThanThree() {
        // From the bottom to the top: numbers that go up, that go down, and that go to and fro.
        for (int[] way : new int[][] {{0, 1, 2, 3, 4}, {11, 10, 9, 8, 7}, {5, 0, 11, 3, 7}, {6, 9, 1, 8, 2}}) {
            Watched x = withRecipes();
            Check.due("depth 1", x.needs(way[1], way[0], 1, 1), 1);
            Check.due("depth 2", x.needs(way[2], way[1], 1, 1), 1);
            Check.due("depth 3", x.needs(way[3], way[2], 1, 1), 1);
            for (int k = 0; k <= 4; k++) {
                Check.due("the depth of good " + way[k], x.look(way[k], 5), k % 4);
            }
            Check.unchanged("depth 4", x, 0, () -> x.needs(way[4], way[3], 1, 1));
            Check.due("depth 3 again", x.needs(way[4], way[2], 1, 1), 1);
            Check.unchanged("depth 4 by a second need", x, 0, () -> x.needs(way[4], way[3], 1, 1));
            Check.unchanged("depth 4 by a second need of the other", x, 0, () -> x.needs(way[3], way[4], 1, 1));
        }
        Watched x = withRecipes();
        x.needs(1, 0, 1, 1);
        x.needs(2, 1, 1, 1);
        x.needs(3, 2, 1, 1);
        Check.due("a by-product that is 3 deep", x.yields(5, 3, 1, 1), 1);
        Check.due("makes nothing deep", x.look(5, 5), 0);
    }

    // "no more than 3", with promise 4's "(of any good)"
    private static void depthOfAnyGoodIsNoMoreThanThree() {
        Watched x = withRecipes();
        x.needs(3, 2, 1, 1);
        x.needs(2, 1, 1, 1);
        x.needs(1, 0, 1, 1);
        Check.unchanged("a need at the bottom would make the top 4 deep", x, 0, () -> x.needs(0, 4, 1, 1));
        x.needs(6, 5, 1, 1);
        Check.unchanged("needs(1, 6): good 1 would be 2 deep, good 3 would be 4", x, 0, () -> x.needs(1, 6, 1, 1));
        Check.unchanged("needs(0, 6): good 0 would be 2 deep, good 3 would be 5", x, 0, () -> x.needs(0, 6, 1, 1));
        Check.due("needs(1, 5): good 1 stays 1 deep", x.needs(1, 5, 1, 1), 1);
        Check.due("needs(2, 6): good 2 stays 2 deep", x.needs(2, 6, 1, 1), 1);
        Check.due("needs(3, 6): good 3 stays 3 deep", x.needs(3, 6, 1, 1), 1);
        x.needs(9, 8, 1, 1);
        x.needs(8, 7, 1, 1);
        Check.unchanged("needs(7, 2): good 9 would be 5 deep", x, 0, () -> x.needs(7, 2, 1, 1));
        Check.unchanged("needs(7, 1): good 9 would be 4 deep", x, 0, () -> x.needs(7, 1, 1, 1));
        Check.due("needs(7, 0): good 9 is 3 deep", x.needs(7, 0, 1, 1), 1);
        Check.due("look(9, 5)", x.look(9, 5), 3);
    }

    // "and no ring by needs"
    private static void thereIsNoRing() {
        for (int length = 2; length <= 4; length++) {
            for (int shift = 0; shift < 12; shift++) {
                Watched x = withRecipes();
                for (int k = 1; k < length; k++) {
                    Check.due("a way of " + k, x.needs((shift + k) % 12, (shift + k - 1) % 12, 1, 1), 1);
                }
                int bottom = shift;
                int top = (shift + length - 1) % 12;
                Check.unchanged("a ring of " + length, x, 0, () -> x.needs(bottom, top, 1, 1));
                Check.due("by-products close no ring", x.yields(bottom, top, 1, 1), 1);
                Watched y = withRecipes();
                for (int k = 1; k < length; k++) {
                    Check.due("a way of " + k, y.needs((shift + k - 1) % 12, (shift + k) % 12, 1, 1), 1);
                }
                Check.unchanged("a ring of " + length, y, 0, () -> y.needs(top, bottom, 1, 1));
            }
        }
    }

    private static void manyWaysAreNoRing() {
        Watched x = withRecipes();
        x.needs(3, 1, 1, 1);
        x.needs(3, 2, 1, 1);
        x.needs(1, 0, 1, 1);
        Check.due("a second way to the same good", x.needs(2, 0, 1, 1), 1);
        Check.due("and a third, straight", x.needs(3, 0, 1, 1), 1);
        Check.due("and a fourth, by a longer way", x.needs(2, 1, 1, 1), 1);
        Check.due("look(3, 5)", x.look(3, 5), 3);
    }

    private static void lots() {
        twoHundredLotsAtMost();
        lotsAreCountedInAll();
        emptyLotsAreCountedToo();
        stockIsOfAllLots();
    }

    // "LOTS 0, 1, .. (200 at most"
    private static void twoHundredLotsAtMost() {
        Watched x = new Watched();
        for (int i = 0; i <= 198; i++) {
            Check.due("lot " + i, x.in(3, 1, 1), i);
        }
        Check.due("199 lots", x.count(0), 199);
        Check.due("the last lot", x.in(3, 7, 8), 199);
        Check.due("200 lots", x.count(0), 200);
        Check.due("lot(199, 1)", x.lot(199, 1), 7);
        Check.illegalState("a lot more", x, () -> x.in(3, 1, 1));
        Check.due("look(3, 2)", x.look(3, 2), 200);
    }

    // "in all)"
    private static void lotsAreCountedInAll() {
        Watched x = new Watched();
        byProducts(x, 1, 1, 1, 1);
        x.in(1, 100, 0);
        for (int i = 0; i < 66; i++) {
            Check.due("made: three lots", x.made(0, 1, false), 1);
        }
        Check.due("199 lots", x.count(0), 199);
        Check.unchanged("three lots more", x, 0, () -> x.made(0, 1, false));
        Check.due("one lot more, of a good that has none", x.in(9, 1, 1), 199);
        Check.illegalState("another one", x, () -> x.in(10, 1, 1));
    }

    private static void emptyLotsAreCountedToo() {
        Watched x = new Watched();
        x.prior(2, 10000, 100000);
        for (int i = 0; i < 200; i++) {
            Check.due("a lot of which nothing is left", x.in(2, 1, 1), i);
        }
        Check.due("look(2, 2)", x.look(2, 2), 0);
        Check.illegalState("a lot more", x, () -> x.in(2, 1, 1));
    }

    // "STOCK of a good: what is left of all its lots"
    private static void stockIsOfAllLots() {
        Watched x = new Watched();
        Check.due("no lots", x.look(7, 0), 0);
        for (int i = 0; i < 200; i++) {
            x.in(7, 10000, 0);
        }
        Check.due("200 lots", x.look(7, 0), 2000000);
        Check.unchanged("one more than the stock", x, -1, () -> x.export(7, 2000001));
        Check.due("all of the stock", x.export(7, 2000000), 0);
        Check.due("nothing is left", x.look(7, 0), 0);
        Check.due("of no lot", x.look(7, 2), 0);
        Check.unchanged("one of nothing", x, -1, () -> x.export(7, 1));
    }

    private static void taking() {
        lotsAreTakenInTheirOrder();
        allOfALotTakesAllOfItsDebt();
        aPartTakesTheDebtRoundedDown();
        theGreatestDebtOfTheGreatestLot();
    }

    // "Of a good they are TAKEN in their order"
    private static void lotsAreTakenInTheirOrder() {
        Watched x = new Watched();
        x.in(1, 2, 20);
        x.in(2, 5, 500);
        x.in(1, 3, 300);
        x.in(1, 4, 4000);
        Check.due("the first lot, to its last", x.export(1, 2), 20);
        Check.due("one of the next, none of the empty one", x.export(1, 1), 100);
        Check.due("the rest of it and one of the third", x.release(1, 3), 1200);
        Check.due("lot(1, 1): another good's", x.lot(1, 1), 5);
        Check.due("lot(3, 1)", x.lot(3, 1), 3);
        Check.due("lot(3, 2)", x.lot(3, 2), 3000);
        x.in(1, 1, 7);
        Check.due("a new lot is behind them", x.export(1, 3), 3000);
        Check.due("and the last", x.export(1, 1), 7);
    }

    // "all of D if x is L"
    private static void allOfALotTakesAllOfItsDebt() {
        Watched x = new Watched();
        x.in(1, 3, 11);
        Check.due("all at once", x.export(1, 3), 11);
        Check.due("no debt is left", x.lot(0, 2), 0);
        x.in(1, 1, 1000000);
        Check.due("a lot of one", x.export(1, 1), 1000000);
        x.in(1, 3, 11);
        Check.due("FLOOR(11 / 3)", x.export(1, 1), 3);
        Check.due("FLOOR(8 / 2)", x.export(1, 1), 4);
        Check.due("all that is left of it", x.export(1, 1), 4);
        x.in(1, 10, 1);
        Check.due("all but one: FLOOR(9 / 10)", x.export(1, 9), 0);
        Check.due("the last one", x.export(1, 1), 1);
        x.in(1, 4, 0);
        Check.due("all, without a debt", x.export(1, 4), 0);
        Check.due("sum(4)", x.sum(4), 0);
    }

    // "else FLOOR(D * x / L)"
    private static void aPartTakesTheDebtRoundedDown() {
        long[][] parts = {{10, 100, 9, 90}, {10, 109, 9, 98}, {10, 101, 1, 10}, {10, 99, 1, 9}, {2, 1, 1, 0}, {7, 6, 6, 5},
            {10000, 9999, 1, 0}, {10000, 10000, 1, 1}, {3, 1000000, 2, 666666}, {10000, 1000000, 9999, 999900}};
        for (long[] part : parts) {
            Watched x = new Watched();
            x.in(4, (int) part[0], (int) part[1]);
            String told = part[2] + " of " + part[0] + " with " + part[1];
            Check.due(told, x.export(4, (int) part[2]), part[3]);
            Check.due("what stays of it: " + told, x.lot(0, 2), part[1] - part[3]);
            Check.due("what is left of it: " + told, x.lot(0, 1), part[0] - part[2]);
        }
    }

    /** 198 million cents on a lot of 10000: far beyond an int when they are multiplied. */
    private static void theGreatestDebtOfTheGreatestLot() {
        Watched x = new Watched();
        x.recipe(0);
        x.needs(0, 1, 1, 1);
        for (int i = 0; i < 198; i++) {
            x.in(1, 51, 1000000);
        }
        Check.due("made(0, 10000)", x.made(0, 10000, true), 1);
        // 10000 of 10098: 196 lots, and FLOOR(1000000 * 4 / 51) = 78431 of the 197th.
        Check.due("lot(198, 2)", x.lot(198, 2), 196078431);
        Check.due("lot(196, 2)", x.lot(196, 2), 921569);
        // 196078431 * 9999 / 10000 = 196058823.1569
        Check.due("all but one", x.export(0, 9999), 196058823);
        Check.due("the last one", x.export(0, 1), 19608);
    }

    private static void imports() {
        anImportIsOfToday();
        priorExportsAreMetFirstInTheirOrder();
        openOnesAlone();
        theirLastDayIsIncluded();
        asFarAsEitherHasSomethingLeft();
        ofTheGoodAlone();
        theLotIsThereAlsoWithNothingLeft();
        priorExportsMeetNoLotThatIsThere();
        fortyPriorExportsByOneLot();
    }

    // "IMPORT: a new lot, of TODAY"
    private static void anImportIsOfToday() {
        Watched x = new Watched();
        x.in(1, 1, 1);
        x.day(100000);
        x.in(1, 1, 1);
        Check.due("lot(0, 3)", x.lot(0, 3), 0);
        Check.due("lot(1, 3)", x.lot(1, 3), 100000);
    }

    // "PRIOR exports of the good .. are met first, in their order"
    private static void priorExportsAreMetFirstInTheirOrder() {
        Watched x = new Watched();
        x.prior(1, 3, 50);
        x.prior(1, 4, 10);
        x.in(1, 5, 11);
        // FLOOR(11 * 3 / 5) = 6, then the 5 cents that are left with the 2 that are left.
        Check.due("sum(1)", x.sum(1), 11);
        Check.due("look(1, 7)", x.look(1, 7), 2);
        x.day(11);
        Check.due("the first was met before the one whose day ends first", x.look(1, 7), 0);
    }

    // "that are open"
    private static void openOnesAlone() {
        Watched x = new Watched();
        x.prior(1, 3, 50);
        x.in(1, 3, 10);
        x.in(1, 3, 10);
        Check.due("what is met in full is met no more", x.lot(1, 1), 3);
        Check.due("sum(1)", x.sum(1), 10);
        x.prior(1, 1, 50);
        x.in(1, 3, 10);
        Check.due("the next one is open", x.lot(2, 1), 2);
    }

    // "and whose last day is not behind us"
    private static void theirLastDayIsIncluded() {
        for (int until : new int[] {0, 1, 99999, 100000}) {
            for (int today = Math.max(0, until - 1); today <= Math.min(100000, until + 1); today++) {
                Watched x = new Watched();
                x.prior(1, 3, until);
                x.day(today);
                Check.due("open on " + today + ", until " + until, x.look(1, 7), today <= until ? 3 : 0);
                x.in(1, 5, 10);
                Check.due("met on " + today + ", until " + until, x.lot(0, 1), today <= until ? 2 : 5);
                Check.due("discharged on " + today + ", until " + until, x.sum(1), today <= until ? 6 : 0);
            }
        }
        Watched x = new Watched();
        x.day(9);
        Check.due("one that is told when its day is behind us", x.prior(1, 3, 8), 1);
        x.in(1, 5, 10);
        Check.due("is not met", x.lot(0, 1), 5);
    }

    // "each as far as it has something left and the lot has: that is TAKEN of the lot, its debt is DISCHARGED"
    private static void asFarAsEitherHasSomethingLeft() {
        long[][] cases = {{9, 10, 1, 0, 99}, {10, 10, 0, 0, 110}, {11, 10, 0, 1, 110}, {1, 10, 9, 0, 11}, {10000, 10, 0, 9990, 110}};
        for (long[] one : cases) {
            Watched x = new Watched();
            x.prior(6, (int) one[0], 0);
            x.in(6, (int) one[1], 110);
            String told = one[0] + " by a lot of " + one[1];
            Check.due("left of the lot: " + told, x.lot(0, 1), one[2]);
            Check.due("left of the export: " + told, x.look(6, 7), one[3]);
            Check.due("discharged: " + told, x.sum(1), one[4]);
            Check.due("the lot's debt: " + told, x.lot(0, 2), 110 - one[4]);
            Check.due("imported: " + told, x.sum(0), 110);
            Check.due("stands: " + told, x.sum(4), 110 - one[4]);
        }
    }

    private static void ofTheGoodAlone() {
        Watched x = new Watched();
        x.prior(6, 5, 0);
        x.prior(8, 5, 0);
        x.in(7, 10, 100);
        Check.due("lot(0, 1)", x.lot(0, 1), 10);
        x.in(8, 10, 100);
        Check.due("lot(1, 1)", x.lot(1, 1), 5);
        Check.due("look(6, 7)", x.look(6, 7), 5);
    }

    // "(The lot is there, with what is left, also 0.)"
    private static void theLotIsThereAlsoWithNothingLeft() {
        Watched x = new Watched();
        x.prior(6, 5, 0);
        Check.due("in(6, 5, 33)", x.in(6, 5, 33), 0);
        Check.due("count(0)", x.count(0), 1);
        long[] want = {6, 0, 0, 0};
        for (int what = 0; what <= 3; what++) {
            Check.due("lot(0, " + what + ")", x.lot(0, what), want[what]);
        }
        Check.due("look(6, 2)", x.look(6, 2), 0);
        Check.unchanged("export of what is not left", x, -1, () -> x.export(6, 1));
        Check.due("the next lot's number", x.in(6, 5, 33), 1);
        Check.due("is taken behind the empty one", x.export(6, 5), 33);
    }

    private static void priorExportsMeetNoLotThatIsThere() {
        Watched x = new Watched();
        x.recipe(6);
        x.needs(6, 5, 1, 1);
        x.in(6, 5, 33);
        x.prior(6, 5, 0);
        Check.due("lot(0, 1)", x.lot(0, 1), 5);
        x.in(5, 5, 33);
        x.made(6, 5, false);
        Check.due("nor one that is made", x.lot(2, 1), 5);
        Check.due("look(6, 7)", x.look(6, 7), 5);
        x.export(6, 10);
        Check.due("nor does another export meet it", x.look(6, 7), 5);
    }

    private static void fortyPriorExportsByOneLot() {
        for (int n = 39; n <= 41; n++) {
            Watched x = new Watched();
            for (int i = 1; i <= 40; i++) {
                x.prior(6, 1, 0);
            }
            x.in(6, n, n);
            Check.due("left of the exports, by a lot of " + n, x.look(6, 7), Math.max(0, 40 - n));
            Check.due("left of the lot of " + n, x.lot(0, 1), Math.max(0, n - 40));
            Check.due("discharged by a lot of " + n, x.sum(1), Math.min(n, 40));
            x.in(6, 10000, 0);
            Check.due("left of the next lot", x.lot(1, 1), 10000 - Math.max(0, 40 - n));
        }
    }

    private static void making() {
        needsAreRoundedUp();
        byProductsAreRoundedDown();
        nothingIsDoneIfAStockDoesNotSuffice();
        nothingIsDoneWithoutRoomForTheLots();
        aByProductOfNoneNeedsNoRoom();
        newLotsAreOfToday();
        theProductThenEachByProduct();
        theDebtIsOfAllThatWasTaken();
        refusedNeedsAreNotTaken();
    }

    // "of each need CEIL(n * up / down) is TAKEN"
    private static void needsAreRoundedUp() {
        int[][] cases = {{1, 1, 12, 1}, {11, 1, 12, 1}, {12, 1, 12, 1}, {13, 1, 12, 2}, {24, 1, 12, 2}, {25, 1, 12, 3},
            {1, 12, 1, 12}, {5, 3, 5, 3}, {6, 3, 5, 4}, {4, 3, 5, 3}, {10000, 11, 12, 9167}, {9999, 7, 9, 7777}, {10000, 7, 9, 7778}};
        for (int[] one : cases) {
            Watched x = new Watched();
            x.recipe(0);
            x.needs(0, 1, one[1], one[2]);
            x.in(1, one[3], 0);
            String told = one[0] + " at " + one[1] + " / " + one[2];
            Check.due("made: " + told, x.made(0, one[0], false), 1);
            Check.due("takes all: " + told, x.look(1, 0), 0);
            if (one[3] > 1) {
                Watched y = new Watched();
                y.recipe(0);
                y.needs(0, 1, one[1], one[2]);
                y.in(1, one[3] - 1, 0);
                Check.unchanged("made with one less: " + told, y, 0, () -> y.made(0, one[0], false));
            }
        }
    }

    // "of each by-product there come FLOOR(n * up / down)"
    private static void byProductsAreRoundedDown() {
        int[][] cases = {{11, 1, 12, 0}, {12, 1, 12, 1}, {23, 1, 12, 1}, {24, 1, 12, 2}, {1, 12, 1, 12}, {1, 11, 12, 0}, {2, 11, 12, 1},
            {10000, 12, 1, 120000}, {10000, 7, 9, 7777}, {10000, 12, 11, 10909}};
        for (int[] one : cases) {
            Watched x = new Watched();
            x.recipe(0);
            x.needs(0, 1, 1, 1);
            x.yields(0, 2, one[1], one[2]);
            x.in(1, 10000, 0);
            String told = one[0] + " at " + one[1] + " / " + one[2];
            Check.due("made: " + told, x.made(0, one[0], false), 1);
            Check.due("come: " + told, x.look(2, 0), one[3]);
            Check.due("lots: " + told, x.count(0), one[3] > 0 ? 3 : 2);
        }
    }

    // "Nothing is done if a STOCK does not suffice"
    private static void nothingIsDoneIfAStockDoesNotSuffice() {
        for (int lacking = 1; lacking <= 4; lacking++) {
            Watched x = new Watched();
            x.recipe(0);
            for (int need = 1; need <= 4; need++) {
                x.needs(0, need, need, 1);
                x.in(need, 5 * need, 100);
                x.in(need, 5 * need - (need == lacking ? 1 : 0), 100);
            }
            int missed = lacking;
            Check.unchanged("need " + missed + " lacks one", x, 0, () -> x.made(0, 10, false));
            Check.due("one less can be made", x.made(0, 9, false), 1);
            x.in(lacking, 1, 0);
            Check.due("and now the tenth", x.made(0, 1, false), 1);
        }
    }

    // ", or there is no room for the lots"
    private static void nothingIsDoneWithoutRoomForTheLots() {
        for (int lots = 1; lots <= 3; lots++) {
            Watched x = new Watched();
            x.recipe(0);
            x.needs(0, 1, 1, 1);
            for (int k = 1; k < lots; k++) {
                x.yields(0, 1 + k, 1, 1);
            }
            for (int i = 0; i < 200 - lots; i++) {
                x.in(1, 1, 1);
            }
            Check.due("room for just " + lots + " lots", x.made(0, 1, false), 1);
            Check.due("200 lots", x.count(0), 200);
            Watched y = new Watched();
            y.recipe(0);
            y.needs(0, 1, 1, 1);
            for (int k = 1; k < lots; k++) {
                y.yields(0, 1 + k, 1, 1);
            }
            for (int i = 0; i < 201 - lots; i++) {
                y.in(1, 1, 1);
            }
            Check.unchanged("room for one less than " + lots + " lots", y, 0, () -> y.made(0, 1, true));
        }
    }

    private static void aByProductOfNoneNeedsNoRoom() {
        Watched x = new Watched();
        byProducts(x, 1, 2, 1, 3);
        for (int i = 0; i < 199; i++) {
            x.in(1, 1, 1);
        }
        Check.unchanged("two lots have no room", x, 0, () -> x.made(0, 2, false));
        Check.due("one has", x.made(0, 1, false), 1);
        Check.due("lot(199, 0)", x.lot(199, 0), 0);
        Check.unchanged("none is left", x, 0, () -> x.made(0, 1, false));
    }

    // "New lots, of TODAY"
    private static void newLotsAreOfToday() {
        Watched x = new Watched();
        byProducts(x, 1, 1, 1, 1);
        x.in(1, 2, 0);
        x.made(0, 1, false);
        x.day(100000);
        x.made(0, 1, false);
        for (int i = 1; i <= 6; i++) {
            Check.due("lot(" + i + ", 3)", x.lot(i, 3), i <= 3 ? 0 : 100000);
        }
    }

    // "the product, then each by-product that is not 0"
    private static void theProductThenEachByProduct() {
        int[][] rates = {{1, 1, 1, 1}, {1, 5, 1, 1}, {1, 1, 1, 5}, {1, 5, 1, 5}};
        int[][] goods = {{0, 3, 2}, {0, 2}, {0, 3}, {0}};
        for (int k = 0; k < rates.length; k++) {
            Watched x = new Watched();
            byProducts(x, rates[k][0], rates[k][1], rates[k][2], rates[k][3]);
            x.in(1, 4, 12);
            x.made(0, 4, false);
            Check.due("lots of making " + k, x.count(0), 1 + goods[k].length);
            for (int i = 0; i < goods[k].length; i++) {
                Check.due("making " + k + ", lot " + i, x.lot(1 + i, 0), goods[k][i]);
                Check.due("making " + k + ", share " + i, x.lot(1 + i, 2), 12 / goods[k].length);
            }
        }
    }

    // "The debt T of all that was taken"
    private static void theDebtIsOfAllThatWasTaken() {
        Watched x = new Watched();
        x.recipe(11);
        for (int need = 0; need < 4; need++) {
            x.needs(11, need, 1, 1);
        }
        int[] debts = {1, 20, 300, 4000};
        for (int need = 0; need < 4; need++) {
            x.in(need, 1, debts[need]);
            x.in(need, 2, 10 * debts[need]);
        }
        Check.due("made(11, 2)", x.made(11, 2, false), 1);
        // Of each need all of its first lot and half of its second one.
        Check.due("lot(8, 2)", x.lot(8, 2), 6 * 4321);
        Check.due("sum(4)", x.sum(4), 11 * 4321);
        Check.due("made(11, 1)", x.made(11, 1, false), 1);
        Check.due("lot(9, 2)", x.lot(9, 2), 5 * 4321);
        Check.due("nothing is discharged", x.sum(1), 0);
    }

    private static void refusedNeedsAreNotTaken() {
        Watched x = withRecipes();
        x.needs(1, 0, 1, 1);
        x.needs(2, 1, 1, 1);
        x.needs(2, 3, 1, 1);
        Check.due("a ring", x.needs(1, 2, 12, 1), 0);
        Check.due("told already", x.needs(1, 0, 12, 1), 0);
        x.in(0, 5, 5);
        x.in(2, 50, 500);
        Check.due("made(1, 5)", x.made(1, 5, false), 1);
        Check.due("look(2, 0)", x.look(2, 0), 50);
        Check.due("look(1, 1)", x.look(1, 1), 5);
    }

    private static void apportioning() {
        eachGetsItsShareRoundedDown();
        centsGoToTheGreatestRemainders();
        ofEqualRemaindersTheProductFirst();
        thenTheByProductsAsTheyWereTold();
        allGoesToTheProductIfNothingWeighs();
        byAmountsOrByValues();
        theGreatestDebtByTheGreatestWeights();
    }

    // "each gets FLOOR(T * w / W)"
    private static void eachGetsItsShareRoundedDown() {
        // 4, 8 and 12 of 24: nothing is left over.
        checkShares(4, new int[] {2, 1, 3, 1}, 24, new long[] {4, 8, 12});
        checkShares(4, new int[] {2, 1, 3, 1}, 0, new long[] {0, 0, 0});
        checkShares(4, new int[] {2, 1, 3, 1}, 240000, new long[] {40000, 80000, 120000});
        // 1, 12 and 12 of 25: 25000000 / 25.
        checkShares(1, new int[] {12, 1, 12, 1}, 1000000, new long[] {40000, 480000, 480000});
    }

    // "the cents that are left go one each to the greatest remainders"
    private static void centsGoToTheGreatestRemainders() {
        // 23 by 4, 8, 12: 92, 184, 276 / 24: 3, 7, 11 and 20, 16, 12: two cents, to the first two.
        checkShares(4, new int[] {2, 1, 3, 1}, 23, new long[] {4, 8, 11});
        // 25: 100, 200, 300 / 24: 4, 8, 12 and 4, 8, 12: one cent, to the last.
        checkShares(4, new int[] {2, 1, 3, 1}, 25, new long[] {4, 8, 13});
        // 26: 104, 208, 312 / 24: 4, 8, 13 and 8, 16, 0: one cent, to the second.
        checkShares(4, new int[] {2, 1, 3, 1}, 26, new long[] {4, 9, 13});
        // 1: 4, 8, 12 / 24: to the last.
        checkShares(4, new int[] {2, 1, 3, 1}, 1, new long[] {0, 0, 1});
        // 20 by 5, 1, 1: 100, 20, 20 / 7: 14, 2, 2 and 2, 6, 6: two cents, to the by-products.
        checkShares(5, new int[] {1, 5, 1, 5}, 20, new long[] {14, 3, 3});
        // 9 by 5, 1, 1: 45, 9, 9 / 7: 6, 1, 1 and 3, 2, 2: one cent, to the product.
        checkShares(5, new int[] {1, 5, 1, 5}, 9, new long[] {7, 1, 1});
        // 2 by 1, 3, 3: 2, 6, 6 / 7: 0, 0, 0 and 2, 6, 6.
        checkShares(1, new int[] {3, 1, 3, 1}, 2, new long[] {0, 1, 1});
    }

    // "of equal ones the product first"
    private static void ofEqualRemaindersTheProductFirst() {
        checkShares(3, new int[] {1, 1, 1, 1}, 1, new long[] {1, 0, 0});
        checkShares(3, new int[] {1, 1, 1, 1}, 4, new long[] {2, 1, 1});
        // 5 by 1, 3, 4: 5, 15, 20 / 8: 0, 1, 2 and 5, 7, 4; and by 2, 2, 4: 10, 10, 20 / 8: 1, 1, 2 and 2, 2, 4.
        checkShares(1, new int[] {3, 1, 4, 1}, 5, new long[] {1, 2, 2});
        checkShares(2, new int[] {1, 1, 2, 1}, 5, new long[] {1, 1, 3});
        // 7 by 2, 4, 2: 14, 28, 14 / 8: 1, 3, 1 and 6, 4, 6: two cents, to the first and the last.
        checkShares(2, new int[] {2, 1, 1, 1}, 7, new long[] {2, 3, 2});
        // 3 by 2, 4, 2: 6, 12, 6 / 8: 0, 1, 0 and 6, 4, 6.
        checkShares(2, new int[] {2, 1, 1, 1}, 3, new long[] {1, 1, 1});
        // 1 by 2, 1, 2: 2, 1, 2 / 5: one cent, to the product.
        checkShares(2, new int[] {1, 2, 1, 1}, 1, new long[] {1, 0, 0});
    }

    // "then the by-products as they were told"
    private static void thenTheByProductsAsTheyWereTold() {
        checkShares(3, new int[] {1, 1, 1, 1}, 2, new long[] {1, 1, 0});
        checkShares(3, new int[] {1, 1, 1, 1}, 5, new long[] {2, 2, 1});
        // 1 by 1, 3, 3: 1, 3, 3 / 7: one cent, to the by-product that was told first.
        checkShares(1, new int[] {3, 1, 3, 1}, 1, new long[] {0, 1, 0});
        checkShares(1, new int[] {3, 1, 3, 1}, 8, new long[] {1, 4, 3});
    }

    // "if W is 0 all goes to the product"
    private static void allGoesToTheProductIfNothingWeighs() {
        for (int value = 0; value <= 1; value++) {
            Watched x = new Watched();
            byProducts(x, 1, 1, 1, 1);
            x.value(0, 0);
            x.value(3, 0);
            x.value(2, value);
            x.in(1, 4, 101);
            Check.due("made by value", x.made(0, 4, true), 1);
            Check.due("the product's share, " + value, x.lot(1, 2), value == 0 ? 101 : 0);
            Check.due("the first by-product's, " + value, x.lot(2, 2), 0);
            Check.due("the second by-product's, " + value, x.lot(3, 2), value == 0 ? 0 : 101);
            Check.due("sum(4)", x.sum(4), 101);
        }
        Watched x = new Watched();
        byProducts(x, 1, 5, 1, 5);
        x.value(0, 0);
        x.value(2, 10000);
        x.value(3, 10000);
        x.in(1, 4, 101);
        Check.due("made by value, of by-products none", x.made(0, 4, true), 1);
        Check.due("all goes to the product", x.lot(1, 2), 101);
        Check.due("count(0)", x.count(0), 2);
    }

    // "by their amounts, or by amounts times VALUES"
    private static void byAmountsOrByValues() {
        for (int k = 0; k <= 1; k++) {
            Watched x = new Watched();
            byProducts(x, 2, 1, 1, 2);
            x.value(0, 5);
            x.value(3, 1);
            x.value(2, 6);
            x.value(1, 777);
            x.in(1, 4, 140);
            Check.due("made", x.made(0, 4, k == 1), 1);
            // By 4, 8, 2 of 14; by 20, 8, 12 of 40.
            long[] want = k == 0 ? new long[] {40, 80, 20} : new long[] {70, 28, 42};
            for (int i = 0; i < 3; i++) {
                Check.due("by value " + k + ", share " + i, x.lot(1 + i, 2), want[i]);
            }
        }
    }

    /** 197 million cents times 1.2 * 10^9, of 2.5 * 10^9. */
    private static void theGreatestDebtByTheGreatestWeights() {
        Watched x = new Watched();
        byProducts(x, 12, 1, 12, 1);
        for (int good : new int[] {0, 2, 3}) {
            x.value(good, 10000);
        }
        x.in(1, 9804, 1000000);
        for (int i = 1; i < 197; i++) {
            x.in(1, 1, 1000000);
        }
        Check.due("made(0, 10000, true)", x.made(0, 10000, true), 1);
        Check.due("lot(197, 2)", x.lot(197, 2), 7880000);
        Check.due("lot(198, 2)", x.lot(198, 2), 94560000);
        Check.due("lot(198, 1)", x.lot(198, 1), 120000);
        Check.due("lot(199, 2)", x.lot(199, 2), 94560000);
    }

    private static void exportsAndReleases() {
        anExportIsDischarged();
        aReleaseIsOwed();
        interestIsOfEachLotsPart();
        interestIsRoundedDown();
        monthsAreRoundedUp();
        theGreatestInterest();
    }

    // "EXPORT of a good: TAKEN; its debt is DISCHARGED"
    private static void anExportIsDischarged() {
        Watched x = new Watched();
        x.in(0, 10, 1000);
        x.day(100000);
        Check.due("the last day, without interest", x.export(0, 10), 1000);
        long[] want = {1000, 1000, 0, 0, 0};
        for (int what = 0; what <= 4; what++) {
            Check.due("sum(" + what + ")", x.sum(what), want[what]);
        }
        x.in(0, 3, 100);
        x.export(0, 2);
        x.export(0, 1);
        Check.due("sum(1) of three exports", x.sum(1), 1100);
    }

    // "RELEASE: TAKEN; its debt is OWED"
    private static void aReleaseIsOwed() {
        Watched x = new Watched();
        x.in(0, 10, 1000);
        Check.due("the lot's own day", x.release(0, 10), 1000);
        long[] want = {1000, 0, 1000, 0, 0};
        for (int what = 0; what <= 4; what++) {
            Check.due("sum(" + what + ")", x.sum(what), want[what]);
        }
        Check.unchanged("nothing is left", x, -1, () -> x.release(0, 1));
        x.in(0, 3, 100);
        x.day(1);
        x.release(0, 3);
        x.in(1, 3, 300);
        x.day(2);
        x.release(1, 3);
        Check.due("sum(2) of three releases", x.sum(2), 1400);
        Check.due("sum(3) of three releases", x.sum(3), 4);
        Check.due("sum(1)", x.sum(1), 0);
    }

    // "for each lot's part INTEREST is owed"
    private static void interestIsOfEachLotsPart() {
        Watched x = new Watched();
        x.in(0, 1, 199);
        x.in(0, 1, 199);
        x.day(1);
        Check.due("one cent each, though 398 would be three", x.release(0, 2), 400);
        Check.due("sum(3)", x.sum(3), 2);
        Watched y = new Watched();
        y.in(0, 2, 1000);
        y.day(30);
        y.in(0, 2, 1000);
        y.day(31);
        // 1000 at two months, 500 at one.
        Check.due("each by its own day", y.release(0, 3), 1525);
        Check.due("the last part", y.release(0, 1), 505);
        Check.due("sum(3)", y.sum(3), 30);
    }

    // "FLOOR(debt of that part * months / 100)"
    private static void interestIsRoundedDown() {
        long[][] cases = {{99, 1, 0}, {100, 1, 1}, {199, 1, 1}, {200, 1, 2}, {49, 31, 0}, {50, 31, 1}, {1, 2970, 0}, {1, 2971, 1}, {0, 100000, 0}};
        for (long[] one : cases) {
            Watched x = new Watched();
            x.in(0, 1, (int) one[0]);
            x.day((int) one[1]);
            Check.due(one[0] + " cents on day " + one[1], x.release(0, 1), one[0] + one[2]);
            Check.due("interest on " + one[0] + " cents on day " + one[1], x.sum(3), one[2]);
        }
    }

    // "months being CEIL(days since the lot's day / 30)"
    private static void monthsAreRoundedUp() {
        int[][] days = {{0, 0}, {1, 1}, {29, 1}, {30, 1}, {31, 2}, {59, 2}, {60, 2}, {61, 3}, {90, 3}, {91, 4}};
        for (int from : new int[] {0, 17, 99909}) {
            for (int[] one : days) {
                Watched x = new Watched();
                x.day(from);
                x.in(0, 1, 100);
                x.day(from + one[0]);
                Check.due(one[0] + " days after day " + from, x.release(0, 1), 100 + one[1]);
            }
        }
    }

    private static void theGreatestInterest() {
        Watched x = new Watched();
        for (int i = 0; i < 200; i++) {
            x.in(0, 10000, 1000000);
        }
        x.day(100000);
        // 3334 months: 33340000 cents on each of 200 lots.
        Check.due("release(0, 2000000)", x.release(0, 2000000), 6868000000L);
        Check.due("sum(2)", x.sum(2), 200000000L);
        Check.due("sum(3)", x.sum(3), 6668000000L);
    }

    private static void chains() {
        oneFromAGoodToItself();
        noneIsZeroOfOne();
        byNeedsAlone();
        allWaysTogether();
        refusedNeedsAreNoWay();
        theGreatestAndTheSmallest();
    }

    // "1 from a good to itself"
    private static void oneFromAGoodToItself() {
        Watched x = new Watched();
        x.recipe(11);
        x.needs(11, 0, 12, 1);
        for (int good = 0; good < 12; good++) {
            checkChain(x, good, good, 1, 1);
        }
    }

    // "0 if there is none"
    private static void noneIsZeroOfOne() {
        Watched x = new Watched();
        checkChain(x, 0, 11, 0, 1);
        x.recipe(11);
        checkChain(x, 11, 0, 0, 1);
        x.needs(11, 0, 7, 12);
        checkChain(x, 0, 11, 0, 1);
        checkChain(x, 11, 1, 0, 1);
    }

    // "by needs alone"
    private static void byNeedsAlone() {
        Watched x = new Watched();
        x.recipe(11);
        x.yields(11, 0, 5, 1);
        checkChain(x, 11, 0, 0, 1);
        x.needs(11, 0, 7, 12);
        checkChain(x, 11, 0, 7, 12);
    }

    // "all ways together"
    private static void allWaysTogether() {
        Watched x = withRecipes();
        x.needs(3, 2, 1, 2);
        x.needs(2, 1, 2, 3);
        x.needs(1, 0, 3, 4);
        checkChain(x, 3, 0, 1, 4);
        x.needs(3, 1, 1, 1);
        checkChain(x, 3, 0, 1, 1);
        x.needs(3, 0, 1, 12);
        checkChain(x, 3, 0, 13, 12);
        x.needs(2, 0, 1, 6);
        checkChain(x, 3, 0, 7, 6);
        checkChain(x, 3, 1, 4, 3);
        checkChain(x, 2, 0, 2, 3);
    }

    private static void refusedNeedsAreNoWay() {
        Watched x = withRecipes();
        x.needs(1, 0, 1, 2);
        x.needs(2, 1, 1, 2);
        x.needs(3, 2, 1, 2);
        Check.due("a ring", x.needs(0, 3, 1, 2), 0);
        Check.due("too deep", x.needs(4, 3, 1, 2), 0);
        Check.due("told already", x.needs(1, 0, 1, 3), 0);
        checkChain(x, 0, 3, 0, 1);
        checkChain(x, 4, 3, 0, 1);
        checkChain(x, 3, 0, 1, 8);
    }

    private static void theGreatestAndTheSmallest() {
        Watched x = withRecipes();
        for (int k = 0; k < 4; k++) {
            x.needs(11, 7 + k, 12, 1);
            for (int j = 0; j < 4; j++) {
                x.needs(7 + k, 3 + j, 12, 1);
            }
            x.needs(3 + k, 0, 12, 1);
        }
        checkChain(x, 11, 0, 27648, 1);
        Watched y = withRecipes();
        y.needs(3, 2, 1, 12);
        y.needs(2, 1, 1, 12);
        y.needs(1, 0, 1, 12);
        checkChain(y, 3, 0, 1, 1728);
        // 1/11 + 1/9 + 1/8 + 1/7 = (504 + 616 + 693 + 792) / 5544 at each of the two upper depths.
        Watched z = withRecipes();
        int[] downs = {11, 9, 8, 7};
        for (int k = 0; k < 4; k++) {
            z.needs(11, 7 + k, 1, downs[k]);
            for (int j = 0; j < 4; j++) {
                z.needs(7 + k, 3 + j, 1, downs[j]);
            }
            z.needs(3 + k, 0, 1, downs[0]);
            z.needs(3 + k, 1, 1, downs[1]);
            z.needs(3 + k, 2, 1, downs[2]);
        }
        checkChain(z, 11, 0, 2605L * 2605, 5544L * 5544 * 11);
        checkChain(z, 11, 3, 2605, 5544 * 11);
    }

    private static Watched withRecipes() {
        Watched x = new Watched();
        for (int good = 0; good < 12; good++) {
            x.recipe(good);
        }
        return x;
    }

    /** Good 0 is made of one of good 1, with good 3 and then good 2 as by-products. */
    private static void byProducts(Watched x, int up1, int down1, int up2, int down2) {
        x.recipe(0);
        x.needs(0, 1, 1, 1);
        x.yields(0, 3, up1, down1);
        x.yields(0, 2, up2, down2);
    }

    private static void checkShares(int n, int[] rates, int debt, long[] want) {
        Watched x = new Watched();
        byProducts(x, rates[0], rates[1], rates[2], rates[3]);
        x.in(1, n, debt);
        Check.due("made", x.made(0, n, false), 1);
        for (int i = 0; i < 3; i++) {
            Check.due("share " + i + " of " + debt + " cents on " + n, x.lot(1 + i, 2), want[i]);
        }
    }

    private static void checkChain(Watched x, int product, int good, long above, long below) {
        Check.due("chain(" + product + ", " + good + ", 0)", x.chain(product, good, 0), above);
        Check.due("chain(" + product + ", " + good + ", 1)", x.chain(product, good, 1), below);
    }
}

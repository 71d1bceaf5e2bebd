/** Promises 29 to 32 and 40: orders and the pots that are good for them. */
public final class OrdersTest {
    private static final int NONE = CopperStreet.NONE;
    private static final int NOTHING = CopperStreet.NOTHING;
    private static final Check CHECK = new Check("OrdersTest");

    public static void main(String[] args) {
        promise29Fits();
        promise29FitsSoldPotsAndFilledOrders();
        promise30GoodFor();
        promise31Filled();
        promise31FilledByAnotherWayThanInTurn();
        promise32Worth();
        promise40SoldShare();
        aFullStreet();
        CHECK.end();
    }

    private static void promise29Fits() {
        CopperStreet x = Check.streetWithPots(3);
        x.baker(1, 1, 9);
        x.baker(1, 4, 9);
        CHECK.due("fits(3, 0)", NONE, x.fits(3, 0));
        CHECK.due("fits(0, 2)", NONE, x.fits(0, 2));
        CHECK.due("fits(-1, 0)", NONE, x.fits(-1, 0));
        CHECK.due("fits(0, -1)", NONE, x.fits(0, -1));
        CHECK.due("fits(0, 0)", 12, x.fits(0, 0));
        x.planish(2, 99);
        CHECK.due("fits(2, 0), cracked too", 12, x.fits(2, 0));
        CHECK.due("fits(1, 0)", 6, x.fits(1, 0));
        x.planish(1, 16);
        CHECK.due("fits(1, 0), without tin", 13, x.fits(1, 0));
        x.tin(1, 2);
        CHECK.due("fits(1, 0), tinned thin", 13, x.fits(1, 0));
        x.tin(1, 1);
        CHECK.due("fits(1, 0)", 0, x.fits(1, 0));
        CHECK.due("fits(1, 1)", 13, x.fits(1, 1));
        x.tin(1, 1);
        CHECK.due("fits(1, 1)", 0, x.fits(1, 1));
        x.cook(1, 6);
        CHECK.due("fits(1, 0), used with 1 of tin", 0, x.fits(1, 0));
        CHECK.due("fits(1, 1), used with 1 of tin", 13, x.fits(1, 1));
        x.cook(1, 2);
        CHECK.due("fits(1, 0), used without tin", 13, x.fits(1, 0));
        x.planish(1, 18);
        CHECK.due("fits(1, 0), cracked", 5, x.fits(1, 0));
        CHECK.due("account(15)", 8, x.account(15));
        CHECK.due("reason(0, false)", NOTHING, x.reason(0, false));
    }

    private static void promise29FitsSoldPotsAndFilledOrders() {
        CopperStreet x = Check.streetWithPots(3);
        x.planish(1, 16);
        x.tin(1, 3);
        x.baker(1, 2, 9);
        x.baker(1, 3, 9);
        x.baker(1, 4, 9);
        x.sell(1, 0);
        CHECK.due("fits(1, 0) of the sold pot", 0, x.fits(1, 0));
        CHECK.due("fits(1, 1) of the sold pot", 0, x.fits(1, 1));
        CHECK.due("fits(1, 2) of the sold pot", 13, x.fits(1, 2));
        CHECK.due("fits(0, 0) of the filled order", 12, x.fits(0, 0));
    }

    /** Pans 0, 1 and 2 of gauge 1 that are smooth: with 3 of tin, with 4, and used with 1. */
    private static CopperStreet streetOfGoodPans() {
        CopperStreet x = new CopperStreet();
        x.sheet(1, 60);
        for (int pot = 0; pot < 3; pot++) {
            x.raise(0, 1);
            x.planish(pot, 16);
        }
        x.tin(0, 3);
        x.tin(1, 4);
        x.tin(2, 2);
        x.cook(2, 2);
        return x;
    }

    private static void promise30GoodFor() {
        CopperStreet x = streetOfGoodPans();
        x.baker(1, 1, 10);
        x.baker(1, 4, 10);
        x.baker(1, 5, 10);
        x.baker(0, 1, 10);
        CHECK.due("goodFor(4)", NONE, x.goodFor(4));
        CHECK.due("goodFor(-1)", NONE, x.goodFor(-1));
        CHECK.due("goodFor(0)", 0, x.goodFor(0));
        CHECK.due("goodFor(1)", 1, x.goodFor(1));
        CHECK.due("goodFor(2)", NOTHING, x.goodFor(2));
        CHECK.due("goodFor(3)", NOTHING, x.goodFor(3));
        x.sell(0, 0);
        CHECK.due("goodFor(0), filled", 1, x.goodFor(0));
        x.sell(1, 1);
        CHECK.due("goodFor(0)", 2, x.goodFor(0));
        CHECK.due("goodFor(1)", NOTHING, x.goodFor(1));
        CHECK.due("goodFor(MAX)", NONE, x.goodFor(Integer.MAX_VALUE));
    }

    private static void promise31Filled() {
        CopperStreet x = streetOfGoodPans();
        CHECK.due("filled() without orders", 0, x.filled());
        x.baker(0, 1, 10);
        CHECK.due("filled() without a good pot", 0, x.filled());
        for (int order = 1; order < 6; order++) {
            x.baker(1, 1, 10);
            CHECK.due("filled() of " + order, Math.min(order, 3), x.filled());
        }
        x.sell(1, 5);
        CHECK.due("filled() with one pot sold", 2, x.filled());
        x.sell(0, 4);
        x.sell(2, 1);
        CHECK.due("filled() with all pots sold", 0, x.filled());
        x.undo();
        x.planish(2, 6);
        CHECK.due("filled() with a cracked pot", 0, x.filled());
        CHECK.due("filled() without pots", 0, new CopperStreet().filled());
        CopperStreet y = streetOfGoodPans();
        y.baker(1, 1, 10);
        y.baker(1, 1, 10);
        y.sell(1, 0);
        CHECK.due("filled() with one order filled", 1, y.filled());
        CHECK.due("worth() with one order filled", 10, y.worth());
        y.sell(0, 1);
        CHECK.due("filled() with all orders filled and a good pot left", 0, y.filled());
        CHECK.due("worth() with all orders filled and a good pot left", 0, y.worth());
        CHECK.due("goodFor(0)", 2, y.goodFor(0));
    }

    private static void promise31FilledByAnotherWayThanInTurn() {
        CopperStreet x = streetOfGoodPans();
        x.baker(1, 1, 10);
        x.baker(1, 3, 10);
        x.baker(1, 4, 10);
        CHECK.due("filled()", 3, x.filled());
        x.baker(1, 3, 10);
        x.baker(1, 4, 10);
        CHECK.due("filled() of five", 3, x.filled());
        x.sell(2, 0);
        CHECK.due("filled() after one is sold", 2, x.filled());
        CopperStreet y = streetOfGoodPans();
        y.baker(1, 4, 10);
        y.baker(1, 4, 10);
        y.baker(1, 4, 10);
        CHECK.due("filled() by one pot", 1, y.filled());
        y.baker(1, 1, 10);
        CHECK.due("filled() by two pots", 2, y.filled());
    }

    private static void promise32Worth() {
        CopperStreet x = streetOfGoodPans();
        CHECK.due("worth() without orders", 0, x.worth());
        x.baker(0, 1, 90);
        CHECK.due("worth() without good pots", 0, x.worth());
        x.baker(1, 4, 20);
        CHECK.due("worth()", 20, x.worth());
        x.baker(1, 4, 50);
        CHECK.due("worth(), no pot is left", 20, x.worth());
        x.baker(1, 1, 7);
        CHECK.due("worth(), the lowest pot", 27, x.worth());
        x.baker(1, 1, 31);
        CHECK.due("worth(), half for the used pot", 42, x.worth());
        x.baker(1, 1, 99);
        CHECK.due("worth(), all pots are got", 42, x.worth());
        x.sell(1, 2);
        CHECK.due("worth() after a sale", 22, x.worth());
        CopperStreet y = streetOfGoodPans();
        y.baker(1, 3, 30);
        y.baker(1, 3, 40);
        y.baker(1, 4, 50);
        CHECK.due("worth() in turn, not at best", 70, y.worth());
        CHECK.due("filled()", 2, y.filled());
        CHECK.due("worth() without pots", 0, new CopperStreet().worth());
    }

    private static void promise40SoldShare() {
        CHECK.due("soldShare() without pots", 0.0, new CopperStreet().soldShare());
        CopperStreet x = streetOfGoodPans();
        x.baker(1, 1, 10);
        x.baker(1, 1, 10);
        x.baker(1, 1, 10);
        CHECK.due("soldShare()", 0.0, x.soldShare());
        x.sell(2, 1);
        CHECK.due("soldShare()", 1.0 / 3.0, x.soldShare());
        x.sell(0, 0);
        CHECK.due("soldShare()", 2.0 / 3.0, x.soldShare());
        x.sell(1, 2);
        CHECK.due("soldShare()", 1.0, x.soldShare());
    }

    /** As many sheets, pots and orders as there can be: questions about all of them. */
    private static void aFullStreet() {
        CopperStreet x = new CopperStreet();
        for (int sheet = 0; sheet < 12; sheet++) {
            x.sheet(1, sheet < 3 ? 60 : 10);
        }
        for (int pot = 0; pot < 16; pot++) {
            x.raise(pot / 7, 1);
        }
        x.bars(18);
        for (int pot = 0; pot < 6; pot++) {
            x.planish(pot, 16);
            x.tin(pot, 3);
        }
        for (int order = 0; order < 8; order++) {
            x.baker(1, 1, 10 + order);
        }
        CHECK.due("filled()", 6, x.filled());
        CHECK.due("worth()", 75, x.worth());
        CHECK.due("goodFor(7)", 0, x.goodFor(7));
        CHECK.due("alike()", 15 + 45, x.alike());
        CHECK.due("ranked(0)", 6, x.ranked(0));
        CHECK.due("ranked(15)", 5, x.ranked(15));
        CHECK.due("ranked(16)", NONE, x.ranked(16));
        CHECK.due("peal(3)", 1, x.peal(3));
        CHECK.due("peal(4)", 2, x.peal(4));
        CHECK.due("nearest(120)", 6, x.nearest(120));
        CHECK.due("meanSound()", 52.5, x.meanSound());
        CHECK.due("copper()", 270, x.copper());
        CHECK.due("copperAgain()", 270, x.copperAgain());
        CHECK.due("save()", 16, x.save());
        CHECK.due("sell(5, 7)", 17, x.sell(5, 7));
        CHECK.due("soldShare()", 1.0 / 16.0, x.soldShare());
        CHECK.due("filled() after a sale", 5, x.filled());
        CHECK.due("undo()", 7, x.undo());
        CHECK.due("filled() after undo", 6, x.filled());
        CHECK.due("restore()", 16, x.restore());
        CHECK.due("clear()", 16, x.clear());
    }
}

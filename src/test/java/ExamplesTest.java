/** The examples of the document, call by call. */
public final class ExamplesTest {
    private static final Check CHECK = new Check("ExamplesTest");

    public static void main(String[] args) {
        aPotThatIsRaisedTinnedUsedAndSold();
        aSaleThatIsRefusedThenMade();
        aSheetThatIsRefusedAndATextWithAFault();
        CHECK.end();
    }

    private static void aPotThatIsRaisedTinnedUsedAndSold() {
        CopperStreet x = new CopperStreet();
        CHECK.due("sheet(3, 40)", 0, x.sheet(3, 40));
        CHECK.due("raise(0, 0)", 0, x.raise(0, 0));
        CHECK.due("raise(0, 1)", 1, x.raise(0, 1));
        CHECK.due("planish(0, 24)", 3, x.planish(0, 24));
        CHECK.due("sound(0)", 47, x.sound(0));
        CHECK.due("tin(0, 4)", 4, x.tin(0, 4));
        CHECK.due("account(1)", 8, x.account(1));
        CHECK.due("baker(0, 2, 40)", 0, x.baker(0, 2, 40));
        CHECK.due("cook(0, 9)", 2, x.cook(0, 9));
        CHECK.due("potOf(0, 4)", 2, x.potOf(0, 4));
        CHECK.due("mealsTo(0)", 7, x.mealsTo(0));
        CHECK.due("sell(0, 0)", 47, x.sell(0, 0));
        CHECK.due("orderOf(0, 4)", 20, x.orderOf(0, 4));
        CHECK.due("describe(0)", 22, x.describe(0));
        CHECK.due("tin(1, 1)", CopperStreet.REFUSED, x.tin(1, 1));
        CHECK.due("reason(0, true)", 16, x.reason(0, true));
        CHECK.due("copper()", 120, x.copper());
        CHECK.due("coinsAgain()", 47, x.coinsAgain());
    }

    private static void aSaleThatIsRefusedThenMade() {
        CopperStreet x = new CopperStreet();
        CHECK.due("sheet(5, 60)", 0, x.sheet(5, 60));
        CHECK.due("raise(0, 1)", 0, x.raise(0, 1));
        CHECK.due("raise(0, 1)", 1, x.raise(0, 1));
        CHECK.due("planish(0, 16)", 5, x.planish(0, 16));
        CHECK.due("planish(1, 22)", 4, x.planish(1, 22));
        CHECK.due("tin(0, 2)", 2, x.tin(0, 2));
        CHECK.due("baker(1, 1, 30)", 0, x.baker(1, 1, 30));
        CHECK.due("sell(0, 0)", CopperStreet.REFUSED, x.sell(0, 0));
        CHECK.due("reason(1, false)", 13, x.reason(1, false));
        CHECK.due("reason(1, true)", 1, x.reason(1, true));
        CHECK.due("tin(0, 1)", 3, x.tin(0, 1));
        CHECK.due("sell(0, 0)", 55, x.sell(0, 0));
        CHECK.due("isAlike(0, 1)", true, x.isAlike(0, 1));
        CHECK.due("wouldSound(1, 6, 2)", 60, x.wouldSound(1, 6, 2));
        CHECK.due("ranked(0)", 1, x.ranked(0));
        CHECK.due("nearest(60)", 1, x.nearest(60));
        CHECK.due("soldShare()", 0.5, x.soldShare());
    }

    private static void aSheetThatIsRefusedAndATextWithAFault() {
        CopperStreet x = new CopperStreet();
        CHECK.due("sheet(9, 20)", 0, x.sheet(9, 20));
        CHECK.due("sheet(9, 20)", 1, x.sheet(9, 20));
        CHECK.due("sheet(9, 20)", 2, x.sheet(9, 20));
        CHECK.due("sheet(9, 20)", CopperStreet.REFUSED, x.sheet(9, 20));
        CHECK.due("reason(0, true)", 6, x.reason(0, true));
        CHECK.due("raise(0, 2)", 0, x.raise(0, 2));
        CHECK.due("raise(0, 1)", CopperStreet.REFUSED, x.raise(0, 1));
        CHECK.due("reason(0, true)", 8, x.reason(0, true));
        CHECK.due("append('h')", 1, x.append('h'));
        CHECK.due("append('i')", 2, x.append('i'));
        CHECK.due("append('x')", 3, x.append('x'));
        CHECK.due("read()", CopperStreet.BAD, x.read());
        CHECK.due("fault()", 2, x.fault());
        CHECK.due("bars(3)", 23, x.bars(3));
        CHECK.due("blowsTo(0, 1)", 94, x.blowsTo(0, 1));
        CHECK.due("undo()", 4, x.undo());
        CHECK.due("account(0)", 3, x.account(0));
    }
}

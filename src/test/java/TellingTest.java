/** Promises 15 to 17, 33 to 38 and 41: what is told, summed up, and written. */
public final class TellingTest {
    private static final int NONE = CopperStreet.NONE;
    private static final int BAD = CopperStreet.BAD;
    private static final int NOTHING = CopperStreet.NOTHING;
    private static final Check CHECK = new Check("TellingTest");

    public static void main(String[] args) {
        promise15SheetOf();
        promise16PotOf();
        promise16PotOfSold();
        promise17OrderOf();
        promise33And34Copper();
        promise35And36Again();
        promise37Describe();
        promise37DescribeNumbersOfTwoDigits();
        promise38Written();
        promise41Account();
        CHECK.end();
    }

    private static void sheetDue(CopperStreet x, int sheet, int... due) {
        for (int what = 0; what < due.length; what++) {
            CHECK.due("sheetOf(" + sheet + ", " + what + ")", due[what], x.sheetOf(sheet, what));
        }
    }

    private static void potDue(CopperStreet x, int pot, int... due) {
        for (int what = 0; what < due.length; what++) {
            CHECK.due("potOf(" + pot + ", " + what + ")", due[what], x.potOf(pot, what));
        }
    }

    private static void orderDue(CopperStreet x, int order, int... due) {
        for (int what = 0; what < due.length; what++) {
            CHECK.due("orderOf(" + order + ", " + what + ")", due[what], x.orderOf(order, what));
        }
    }

    private static void accountsDue(CopperStreet x, int... due) {
        for (int what = 0; what < due.length; what++) {
            CHECK.due("account(" + what + ")", due[what], x.account(what));
        }
    }

    private static void promise15SheetOf() {
        CopperStreet x = new CopperStreet();
        x.sheet(4, 50);
        x.sheet(9, 33);
        sheetDue(x, 0, 4, 50, 0, 50);
        sheetDue(x, 1, 9, 33, 0, 33);
        x.raise(0, 2);
        x.raise(0, 0);
        x.raise(1, 1);
        sheetDue(x, 0, 4, 18, 2, 50);
        sheetDue(x, 1, 9, 25, 1, 33);
        CHECK.due("sheetOf(2, 0)", NONE, x.sheetOf(2, 0));
        CHECK.due("sheetOf(-1, 0)", NONE, x.sheetOf(-1, 0));
        CHECK.due("sheetOf(2, 4)", NONE, x.sheetOf(2, 4));
        CHECK.due("sheetOf(MAX, 4)", NONE, x.sheetOf(Integer.MAX_VALUE, 4));
        CHECK.due("sheetOf(0, 4)", BAD, x.sheetOf(0, 4));
        CHECK.due("sheetOf(0, -1)", BAD, x.sheetOf(0, -1));
    }

    private static void promise16PotOf() {
        CopperStreet x = new CopperStreet();
        x.sheet(1, 10);
        x.sheet(5, 40);
        x.raise(1, 0);
        x.raise(1, 2);
        potDue(x, 0, 0, 5, 5, 0, 0, 0, 0, 0, NOTHING, 1);
        potDue(x, 1, 2, 5, 5, 0, 0, 0, 0, 0, NOTHING, 1);
        x.planish(0, 30);
        x.tin(0, 5);
        x.cook(0, 9);
        potDue(x, 0, 0, 5, 4, 30, 3, 9, 1, 0, NOTHING, 1);
        x.planish(0, 24);
        potDue(x, 0, 0, 5, 0, 54, 3, 9, 1, 1, NOTHING, 1);
        x.planish(1, 99);
        potDue(x, 1, 2, 5, 0, 99, 0, 0, 1, 1, NOTHING, 1);
        CHECK.due("potOf(2, 0)", NONE, x.potOf(2, 0));
        CHECK.due("potOf(2, 10)", NONE, x.potOf(2, 10));
        CHECK.due("potOf(-1, 0)", NONE, x.potOf(-1, 0));
        CHECK.due("potOf(0, 10)", BAD, x.potOf(0, 10));
        CHECK.due("potOf(0, -1)", BAD, x.potOf(0, -1));
        CHECK.due("potOf(0, MAX)", BAD, x.potOf(0, Integer.MAX_VALUE));
    }

    private static void promise16PotOfSold() {
        CopperStreet x = Check.streetWithPots(6);
        x.planish(1, 22);
        x.tin(1, 4);
        x.cook(1, 1);
        x.baker(0, 1, 7);
        x.baker(1, 1, 7);
        x.sell(1, 1);
        potDue(x, 1, 1, 6, 5, 22, 4, 1, 1, 0, 1, 0);
        x.planish(1, 5);
        x.tin(1, 1);
        x.cook(1, 9);
        potDue(x, 1, 1, 6, 5, 22, 4, 1, 1, 0, 1, 0);
        CHECK.due("mealsTo(1)", 7, x.mealsTo(1));
    }

    private static void promise17OrderOf() {
        CopperStreet x = Check.streetWithPots(2);
        x.baker(2, 9, 99);
        x.baker(1, 2, 15);
        orderDue(x, 0, 2, 9, 99, NOTHING, 0);
        orderDue(x, 1, 1, 2, 15, NOTHING, 0);
        x.planish(1, 16);
        x.tin(1, 3);
        x.cook(1, 1);
        x.sell(1, 1);
        orderDue(x, 0, 2, 9, 99, NOTHING, 0);
        orderDue(x, 1, 1, 2, 15, 1, 7);
        CHECK.due("orderOf(2, 0)", NONE, x.orderOf(2, 0));
        CHECK.due("orderOf(2, 5)", NONE, x.orderOf(2, 5));
        CHECK.due("orderOf(-1, 0)", NONE, x.orderOf(-1, 0));
        CHECK.due("orderOf(0, 5)", BAD, x.orderOf(0, 5));
        CHECK.due("orderOf(0, -1)", BAD, x.orderOf(0, -1));
    }

    private static void copperDue(CopperStreet x, int copper) {
        CHECK.due("copper()", copper, x.copper());
        CHECK.due("copperAgain()", copper, x.copperAgain());
    }

    private static void promise33And34Copper() {
        CopperStreet x = new CopperStreet();
        copperDue(x, 0);
        x.sheet(9, 60);
        copperDue(x, 540);
        x.sheet(2, 11);
        copperDue(x, 562);
        x.raise(0, 2);
        x.raise(1, 1);
        copperDue(x, 562);
        x.planish(1, 99);
        copperDue(x, 562);
        x.raise(0, 1);
        x.planish(2, 16);
        x.tin(2, 3);
        x.baker(1, 3, 10);
        x.sell(2, 0);
        copperDue(x, 562);
        x.clear();
        copperDue(x, 0);
    }

    private static void againDue(CopperStreet x, int coins, int bars) {
        CHECK.due("account(0)", coins, x.account(0));
        CHECK.due("coinsAgain()", coins, x.coinsAgain());
        CHECK.due("account(1)", bars, x.account(1));
        CHECK.due("barsAgain()", bars, x.barsAgain());
    }

    private static void promise35And36Again() {
        CopperStreet x = new CopperStreet();
        againDue(x, 30, 20);
        x.sheet(4, 60);
        againDue(x, 26, 20);
        x.bars(6);
        againDue(x, 20, 26);
        x.raise(0, 0);
        x.planish(0, 24);
        x.tin(0, 5);
        againDue(x, 20, 11);
        x.cook(0, 1);
        x.baker(0, 1, 51);
        x.sell(0, 0);
        againDue(x, 45, 11);
        x.bars(45);
        againDue(x, 0, 56);
        x.sheet(1, 10);
        againDue(x, 0, 56);
        x.undo();
        againDue(x, 45, 11);
        x.undo();
        againDue(x, 20, 11);
        x.save();
        x.clear();
        againDue(x, 30, 20);
        x.restore();
        againDue(x, 20, 11);
    }

    private static void lineDue(CopperStreet x, int pot, String line) {
        CHECK.due("describe(" + pot + ")", line.length(), x.describe(pot));
        CHECK.due("line of " + pot, line, Check.line(x));
    }

    private static void promise37Describe() {
        CopperStreet x = Check.streetWithPots(4);
        lineDue(x, 0, "kettle0:4");
        lineDue(x, 1, "pan1:4");
        lineDue(x, 2, "cauldron2:4");
        x.raise(0, 1);
        x.planish(3, 16);
        lineDue(x, 3, "pan3:4*");
        x.tin(3, 3);
        lineDue(x, 3, "pan3:4*+3");
        x.cook(3, 2);
        lineDue(x, 3, "pan3:4*+2 used");
        x.baker(1, 2, 9);
        x.sell(3, 0);
        lineDue(x, 3, "pan3:4*+2 used sold");
        x.planish(0, 30);
        x.tin(0, 1);
        x.planish(0, 18);
        lineDue(x, 0, "kettle0:0*+1!");
        x.planish(2, 99);
        lineDue(x, 2, "cauldron2:0*!");
        CHECK.due("describe(4)", NONE, x.describe(4));
        CHECK.due("describe(-1)", NONE, x.describe(-1));
        CHECK.due("line as it was", "cauldron2:0*!", Check.line(x));
        x.planish(1, 16);
        x.tin(1, 3);
        x.cook(1, 6);
        lineDue(x, 1, "pan1:4* used");
        x.tin(1, 2);
        x.planish(1, 24);
        lineDue(x, 1, "pan1:0*+2! used");
    }

    private static void promise37DescribeNumbersOfTwoDigits() {
        CopperStreet x = new CopperStreet();
        x.sheet(1, 60);
        x.sheet(1, 60);
        x.sheet(9, 60);
        for (int pot = 0; pot < 15; pot++) {
            x.raise(pot / 7, 1);
        }
        lineDue(x, 13, "pan13:1");
        lineDue(x, 14, "pan14:9");
        x.raise(2, 2);
        x.planish(15, 40);
        x.bars(10);
        x.tin(15, 6);
        x.cook(15, 1);
        x.baker(2, 1, 9);
        x.sell(15, 0);
        lineDue(x, 15, "cauldron15:9*+6 used sold");
        lineDue(x, 0, "pan0:1");
    }

    private static void promise38Written() {
        CopperStreet x = Check.streetWithPots(4);
        CHECK.due("written(0) at first", NONE, x.written(0));
        x.describe(1);
        CHECK.due("written(0)", 'p', x.written(0));
        CHECK.due("written(3)", '1', x.written(3));
        CHECK.due("written(4)", ':', x.written(4));
        CHECK.due("written(5)", '4', x.written(5));
        CHECK.due("written(6)", NONE, x.written(6));
        CHECK.due("written(-1)", NONE, x.written(-1));
        CHECK.due("written(MAX)", NONE, x.written(Integer.MAX_VALUE));
        CHECK.due("written(MIN)", NONE, x.written(Integer.MIN_VALUE));
        x.planish(1, 16);
        CHECK.due("line after a change", "pan1:4", Check.line(x));
        x.save();
        x.undo();
        x.undo();
        CHECK.due("line after undo", "pan1:4", Check.line(x));
        x.restore();
        CHECK.due("line after restore", "pan1:4", Check.line(x));
        x.clear();
        CHECK.due("line after clear", "pan1:4", Check.line(x));
    }

    private static void promise41Account() {
        CopperStreet x = new CopperStreet();
        CHECK.due("account(16)", BAD, x.account(16));
        CHECK.due("account(-1)", BAD, x.account(-1));
        CHECK.due("account(MIN)", BAD, x.account(Integer.MIN_VALUE));
        x.sheet(2, 60);
        x.raise(0, 0);
        x.raise(0, 1);
        x.raise(0, 2);
        x.raise(0, 1);
        accountsDue(x, 28, 20, 1, 4, 4, 0, 0, 0, 0, 0, 0, 0, 0, 0, 0, 5);
        x.bars(8);
        x.planish(1, 16);
        x.tin(1, 3);
        x.planish(2, 60);
        x.baker(1, 1, 20);
        x.baker(0, 1, 20);
        accountsDue(x, 20, 22, 1, 4, 4, 2, 1, 2, 0, 76, 0, 3, 6, 0, 0, 8);
        x.sell(1, 0);
        x.planish(0, 24);
        x.tin(0, 2);
        x.cook(0, 11);
        Check.type(x, "hit 3");
        accountsDue(x, 40, 16, 1, 4, 3, 3, 1, 2, 1, 100, 11, 5, 12, 20, 5, 8);
        x.sell(0, 1);
        accountsDue(x, 40, 16, 1, 4, 3, 3, 1, 2, 1, 100, 11, 5, 12, 20, 5, 8);
        x.tin(0, 3);
        x.sell(0, 1);
        accountsDue(x, 50, 7, 1, 4, 2, 3, 1, 2, 2, 100, 11, 8, 21, 30, 5, 8);
    }
}

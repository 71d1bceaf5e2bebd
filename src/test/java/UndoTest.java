/** Promises 42 to 44: undo, save and restore. */
public final class UndoTest {
    private static final int NOTHING = CopperStreet.NOTHING;
    private static final Check CHECK = new Check("UndoTest");

    public static void main(String[] args) {
        promise42UndoOfEachChange();
        promise42UndoLimit();
        promise42UndoAndOtherCalls();
        promise42UndoThenChange();
        promise42UndoBringsBackEverything();
        promise43And44SaveAndRestore();
        promise43And44Edges();
        promise44RestoreKeepsWhatIsNoChange();
        promise44RestoreBringsBackEverything();
        CHECK.end();
    }

    private static void promise42UndoOfEachChange() {
        CopperStreet x = new CopperStreet();
        CHECK.due("undo()", NOTHING, x.undo());
        x.sheet(3, 60);
        CHECK.due("undo() of sheet", 0, x.undo());
        CHECK.due("account(2)", 0, x.account(2));
        CHECK.due("account(0)", 30, x.account(0));
        x.sheet(3, 60);
        x.raise(0, 1);
        CHECK.due("undo() of raise", 1, x.undo());
        CHECK.due("account(3)", 0, x.account(3));
        CHECK.due("sheetOf(0, 1)", 60, x.sheetOf(0, 1));
        CHECK.due("sheetOf(0, 2)", 0, x.sheetOf(0, 2));
        x.raise(0, 1);
        x.planish(0, 16);
        CHECK.due("undo() of planish", 2, x.undo());
        CHECK.due("potOf(0, 3)", 0, x.potOf(0, 3));
        CHECK.due("account(9)", 0, x.account(9));
        x.planish(0, 16);
        x.bars(4);
        CHECK.due("undo() of bars", 3, x.undo());
        CHECK.due("account(0)", 27, x.account(0));
        CHECK.due("account(1)", 20, x.account(1));
        CHECK.due("barsAgain()", 20, x.barsAgain());
        CHECK.due("coinsAgain()", 27, x.coinsAgain());
        x.tin(0, 4);
        x.cook(0, 1);
        x.cook(0, 2);
        CHECK.due("undo() of cook", 4 + 1, x.undo());
        CHECK.due("potOf(0, 4)", 4, x.potOf(0, 4));
        CHECK.due("potOf(0, 5)", 1, x.potOf(0, 5));
        CHECK.due("mealsTo(0)", 7, x.mealsTo(0));
        CHECK.due("account(10)", 1, x.account(10));
        x.baker(1, 2, 9);
        CHECK.due("undo() of baker", 5, x.undo());
        CHECK.due("account(7)", 0, x.account(7));
        x.baker(1, 2, 9);
        x.sell(0, 0);
        CHECK.due("account(13)", 4, x.account(13));
        CHECK.due("undo() of sell", 6, x.undo());
        CHECK.due("account(13)", 0, x.account(13));
        CHECK.due("account(0)", 27, x.account(0));
        CHECK.due("potOf(0, 8)", NOTHING, x.potOf(0, 8));
        CHECK.due("orderOf(0, 3)", NOTHING, x.orderOf(0, 3));
        CHECK.due("orderOf(0, 4)", 0, x.orderOf(0, 4));
        Check.read(x, "sell 0 0;bars 1");
        CHECK.due("undo() of read", 6, x.undo());
        CHECK.due("account(8)", 0, x.account(8));
        CHECK.due("account(1)", 12, x.account(1));
        CHECK.due("undo()", 5, x.undo());
        CHECK.due("undo()", 4, x.undo());
        CHECK.due("undo() of tin", 3, x.undo());
        CHECK.due("potOf(0, 4)", 0, x.potOf(0, 4));
        CHECK.due("account(1)", 20, x.account(1));
        CHECK.due("account(11)", 0, x.account(11));
        CHECK.due("account(12)", 0, x.account(12));
    }

    private static void promise42UndoLimit() {
        CopperStreet x = new CopperStreet();
        for (int change = 1; change <= 20; change++) {
            x.bars(1);
            CHECK.due("account(15)", Math.min(change, 8), x.account(15));
        }
        for (int left = 7; left >= 0; left--) {
            CHECK.due("undo()", left, x.undo());
            CHECK.due("account(15)", left, x.account(15));
            CHECK.due("account(1)", 32 + left, x.account(1));
        }
        CHECK.due("undo()", NOTHING, x.undo());
        CHECK.due("undo()", NOTHING, x.undo());
        CHECK.due("account(1)", 32, x.account(1));
        CHECK.due("account(0)", 18, x.account(0));
    }

    private static void promise42UndoAndOtherCalls() {
        CopperStreet x = new CopperStreet();
        x.sheet(2, 30);
        x.raise(0, 0);
        x.raise(0, 2);
        x.raise(1, 0);
        x.planish(0, 100);
        x.cook(0, 1);
        x.sell(0, 0);
        Check.read(x, "cook 0 1");
        Check.read(x, "zz");
        Check.type(x, "bars");
        x.describe(0);
        x.sound(0);
        x.save();
        CHECK.due("account(15)", 2, x.account(15));
        CHECK.due("undo()", 1, x.undo());
        CHECK.due("account(3)", 0, x.account(3));
        CHECK.due("account(14)", 4, x.account(14));
        CHECK.due("fault()", 0, x.fault());
        CHECK.due("reason(0, false)", 14, x.reason(0, false));
        CHECK.due("reason(1, false)", 9, x.reason(1, false));
        CHECK.due("line", "kettle0:2", Check.line(x));
        CHECK.due("undo()", 0, x.undo());
        CHECK.due("account(14)", 4, x.account(14));
        CHECK.due("restore()", 1, x.restore());
    }

    private static void promise42UndoThenChange() {
        CopperStreet x = new CopperStreet();
        x.bars(1);
        x.bars(2);
        x.bars(3);
        x.undo();
        x.bars(10);
        CHECK.due("account(1)", 33, x.account(1));
        CHECK.due("undo()", 2, x.undo());
        CHECK.due("account(1)", 23, x.account(1));
        CHECK.due("undo()", 1, x.undo());
        CHECK.due("account(1)", 21, x.account(1));
        x.sheet(5, 60);
        x.raise(0, 0);
        x.planish(0, 24);
        x.undo();
        x.undo();
        CHECK.due("raise(0, 1) after undo", 0, x.raise(0, 1));
        CHECK.due("potOf(0, 0)", 1, x.potOf(0, 0));
        CHECK.due("potOf(0, 3)", 0, x.potOf(0, 3));
    }

    private static void promise43And44SaveAndRestore() {
        CopperStreet x = Check.streetWithPots(3);
        x.planish(1, 16);
        x.tin(1, 4);
        x.cook(1, 1);
        x.baker(1, 2, 9);
        x.bars(5);
        CHECK.due("save()", 3, x.save());
        CHECK.due("account(15)", 8, x.account(15));
        x.cook(1, 3);
        x.sell(1, 0);
        x.raise(0, 1);
        x.sheet(1, 10);
        CHECK.due("restore()", 3, x.restore());
        CHECK.due("account(15)", 0, x.account(15));
        CHECK.due("undo()", NOTHING, x.undo());
        int[] accounts = {22, 17, 1, 3, 3, 1, 0, 1, 0, 16, 1, 4, 8, 0};
        for (int what = 0; what < accounts.length; what++) {
            CHECK.due("account(" + what + ")", accounts[what], x.account(what));
        }
        CHECK.due("mealsTo(1)", 7, x.mealsTo(1));
        CHECK.due("orderOf(0, 3)", NOTHING, x.orderOf(0, 3));
        CHECK.due("sheetOf(0, 1)", 20, x.sheetOf(0, 1));
        CHECK.due("coinsAgain()", 22, x.coinsAgain());
        CHECK.due("barsAgain()", 17, x.barsAgain());
        x.planish(0, 5);
        CHECK.due("undo() after restore", 0, x.undo());
        x.planish(0, 24);
        x.clear();
        CHECK.due("restore() stays saved", 3, x.restore());
        CHECK.due("potOf(0, 3)", 0, x.potOf(0, 3));
        CHECK.due("potOf(1, 4)", 4, x.potOf(1, 4));
        x.raise(0, 0);
        CHECK.due("save() in place of it", 4, x.save());
        x.undo();
        CHECK.due("restore()", 4, x.restore());
    }

    private static void promise43And44Edges() {
        CopperStreet x = new CopperStreet();
        CHECK.due("restore()", NOTHING, x.restore());
        CHECK.due("save() of nothing", 0, x.save());
        x.sheet(2, 30);
        x.raise(0, 0);
        CHECK.due("restore() of nothing", 0, x.restore());
        CHECK.due("account(2)", 0, x.account(2));
        CHECK.due("account(0)", 30, x.account(0));
        CopperStreet y = new CopperStreet();
        y.sheet(2, 30);
        CHECK.due("restore() without save", NOTHING, y.restore());
        CHECK.due("account(15)", 1, y.account(15));
        CHECK.due("account(2)", 1, y.account(2));
    }

    private static void promise44RestoreKeepsWhatIsNoChange() {
        CopperStreet x = Check.streetWithPots(3);
        x.save();
        x.describe(1);
        Check.read(x, "hit 0");
        x.planish(1, 20);
        x.cook(1, 2);
        Check.type(x, "raise");
        CHECK.due("restore()", 3, x.restore());
        CHECK.due("account(14)", 5, x.account(14));
        CHECK.due("fault()", 5, x.fault());
        CHECK.due("reason(0, false)", 9, x.reason(0, false));
        CHECK.due("line", "pan1:3", Check.line(x));
        CHECK.due("potOf(1, 3)", 0, x.potOf(1, 3));
    }

    /** All numbers that changes can change. */
    private static String tellAll(CopperStreet x) {
        StringBuilder told = new StringBuilder();
        for (int what = 0; what < 14; what++) {
            told.append(x.account(what)).append(' ');
        }
        for (int sheet = 0; x.sheetOf(sheet, 0) >= 0; sheet++) {
            for (int what = 0; what < 4; what++) {
                told.append(what == 0 ? "sheet " : "").append(x.sheetOf(sheet, what)).append(' ');
            }
        }
        for (int pot = 0; x.potOf(pot, 0) >= 0; pot++) {
            for (int what = 0; what < 10; what++) {
                told.append(what == 0 ? "pot " : "").append(x.potOf(pot, what)).append(' ');
            }
            told.append(x.mealsTo(pot)).append(' ');
        }
        for (int order = 0; x.orderOf(order, 0) >= 0; order++) {
            for (int what = 0; what < 5; what++) {
                told.append(what == 0 ? "order " : "").append(x.orderOf(order, what)).append(' ');
            }
        }
        return told.append(x.coinsAgain()).append(' ').append(x.barsAgain()).toString();
    }

    /** Pots, sheets and orders of all kinds, at numbers where an earlier street had quite other ones. */
    private static CopperStreet busyStreet() {
        CopperStreet x = new CopperStreet();
        makeOtherStreet(x);
        x.clear();
        x.sheet(4, 50);
        x.sheet(7, 60);
        x.raise(1, 2);
        x.raise(0, 1);
        x.raise(1, 1);
        x.planish(1, 22);
        x.tin(1, 3);
        x.cook(1, 1);
        x.planish(0, 41);
        x.tin(0, 1);
        x.cook(0, 5);
        x.planish(2, 16);
        x.tin(2, 3);
        x.bars(3);
        x.baker(2, 5, 77);
        x.baker(1, 2, 31);
        x.baker(1, 3, 12);
        x.sell(1, 1);
        return x;
    }

    private static void makeOtherStreet(CopperStreet x) {
        x.sheet(1, 59);
        x.sheet(3, 31);
        x.sheet(2, 33);
        x.raise(0, 0);
        x.raise(2, 0);
        x.raise(0, 2);
        x.raise(1, 2);
        x.planish(0, 25);
        x.planish(1, 27);
        x.planish(2, 45);
        x.tin(0, 4);
        x.cook(0, 3);
        x.tin(1, 2);
        x.cook(1, 2);
        x.baker(0, 1, 8);
        x.baker(0, 2, 6);
        x.baker(2, 7, 5);
        x.baker(2, 8, 4);
        x.sell(1, 0);
        x.bars(2);
    }

    private static int change(CopperStreet x, int number) {
        switch (number) {
            case 0: return x.sheet(2, 20);
            case 1: return x.raise(0, 2);
            case 2: return x.planish(0, 7);
            case 3: return x.bars(2);
            case 4: return x.tin(2, 1);
            case 5: return x.cook(2, 3);
            case 6: return x.baker(0, 9, 3);
            case 7: return x.sell(2, 2);
            default: return Check.read(x, "raise 0 0;hit 3 30;tin 2 1;cook 2 3;sell 2 2;bars 1");
        }
    }

    private static void promise42UndoBringsBackEverything() {
        for (int number = 0; number < 9; number++) {
            CopperStreet x = busyStreet();
            String before = tellAll(x);
            CHECK.due("change " + number + " is made", true, change(x, number) >= 0);
            CHECK.due("change " + number + " is told", false, before.equals(tellAll(x)));
            CHECK.due("undo() of change " + number, 7, x.undo());
            CHECK.due("all numbers after change " + number, before, tellAll(x));
        }
    }

    private static void promise44RestoreBringsBackEverything() {
        CopperStreet x = busyStreet();
        String before = tellAll(x);
        x.save();
        x.clear();
        makeOtherStreet(x);
        CHECK.due("another street is told", false, before.equals(tellAll(x)));
        x.restore();
        CHECK.due("all numbers after restore", before, tellAll(x));
    }
}

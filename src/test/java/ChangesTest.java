/** Promises 1 to 11: a new object, clear, append, and the calls that change the street. */
public final class ChangesTest {
    private static final int NONE = CopperStreet.NONE;
    private static final int BAD = CopperStreet.BAD;
    private static final int REFUSED = CopperStreet.REFUSED;
    private static final int NOTHING = CopperStreet.NOTHING;
    private static final Check CHECK = new Check("ChangesTest");

    public static void main(String[] args) {
        promise1NewObject();
        promise2ClearStartsAnew();
        promise2ClearForgetsHalfWornTin();
        promise2ClearKeepsWhatIsNoChange();
        promise3Append();
        promise4Sheet();
        promise4SheetLimit();
        promise5Raise();
        promise5RaiseLimit();
        promise6Planish();
        promise6PlanishRefused();
        promise7Bars();
        promise8Tin();
        promise8TinRefused();
        promise9Cook();
        promise9CookRefused();
        promise9CookEachKind();
        promise10Baker();
        promise11Sell();
        promise11SellRefused();
        promise11SellNotGood();
        CHECK.end();
    }

    private static void reasonDue(CopperStreet x, int depth, int number, int detail) {
        CHECK.due("reason(" + depth + ", false)", number, x.reason(depth, false));
        CHECK.due("reason(" + depth + ", true)", detail, x.reason(depth, true));
    }

    private static void newAccountsDue(CopperStreet x, int characters) {
        int[] due = {30, 20, 0, 0, 0, 0, 0, 0, 0, 0, 0, 0, 0, 0, characters, 0};
        for (int what = 0; what < due.length; what++) {
            CHECK.due("account(" + what + ")", due[what], x.account(what));
        }
    }

    private static void promise1NewObject() {
        CopperStreet x = new CopperStreet();
        newAccountsDue(x, 0);
        CHECK.due("fault()", NOTHING, x.fault());
        reasonDue(x, 0, NOTHING, NOTHING);
        CHECK.due("written(0)", NONE, x.written(0));
        CHECK.due("undo()", NOTHING, x.undo());
        CHECK.due("restore()", NOTHING, x.restore());
        CHECK.due("sheetOf(0, 0)", NONE, x.sheetOf(0, 0));
        CHECK.due("potOf(0, 0)", NONE, x.potOf(0, 0));
        CHECK.due("orderOf(0, 0)", NONE, x.orderOf(0, 0));
        CHECK.due("copper()", 0, x.copper());
        CHECK.due("copperAgain()", 0, x.copperAgain());
        CHECK.due("coinsAgain()", 30, x.coinsAgain());
        CHECK.due("barsAgain()", 20, x.barsAgain());
        CHECK.due("filled()", 0, x.filled());
        CHECK.due("worth()", 0, x.worth());
        CHECK.due("alike()", 0, x.alike());
        CHECK.due("peal(1)", 0, x.peal(1));
        CHECK.due("nearest(50)", NOTHING, x.nearest(50));
        CHECK.due("ranked(0)", NONE, x.ranked(0));
        CHECK.due("meanSound()", 0.0, x.meanSound());
        CHECK.due("soldShare()", 0.0, x.soldShare());
        new CopperStreet().sheet(5, 20);
        CHECK.due("account(0) beside another object", 30, x.account(0));
    }

    private static void promise2ClearStartsAnew() {
        CopperStreet x = Check.streetWithPots(3);
        CHECK.due("clear() of nothing", 0, new CopperStreet().clear());
        x.planish(1, 16);
        x.tin(1, 4);
        x.cook(1, 3);
        x.bars(2);
        x.baker(1, 2, 9);
        x.sell(1, 0);
        CHECK.due("clear()", 3, x.clear());
        newAccountsDue(x, 0);
        CHECK.due("coinsAgain()", 30, x.coinsAgain());
        CHECK.due("barsAgain()", 20, x.barsAgain());
        CHECK.due("copper()", 0, x.copper());
        CHECK.due("undo()", NOTHING, x.undo());
        CHECK.due("potOf(0, 0)", NONE, x.potOf(0, 0));
        CHECK.due("sheetOf(0, 0)", NONE, x.sheetOf(0, 0));
        CHECK.due("orderOf(0, 0)", NONE, x.orderOf(0, 0));
        CHECK.due("sheet(2, 30)", 0, x.sheet(2, 30));
        CHECK.due("raise(0, 1)", 0, x.raise(0, 1));
        CHECK.due("raise(0, 1)", 1, x.raise(0, 1));
        int[] due = {1, 2, 2, 0, 0, 0, 0, 0, NOTHING, 0};
        for (int what = 0; what < due.length; what++) {
            CHECK.due("potOf(1, " + what + ")", due[what], x.potOf(1, what));
        }
        CHECK.due("sheetOf(0, 2)", 2, x.sheetOf(0, 2));
        CHECK.due("baker(1, 2, 9)", 0, x.baker(1, 2, 9));
        CHECK.due("orderOf(0, 3)", NOTHING, x.orderOf(0, 3));
        CHECK.due("orderOf(0, 4)", 0, x.orderOf(0, 4));
        CHECK.due("clear() again", 2, x.clear());
        CHECK.due("clear() once more", 0, x.clear());
    }

    private static void promise2ClearForgetsHalfWornTin() {
        CopperStreet x = Check.streetWithPots(3);
        x.planish(0, 24);
        x.tin(0, 2);
        x.cook(0, 3);
        x.clear();
        x.sheet(3, 40);
        x.raise(0, 0);
        x.planish(0, 24);
        x.tin(0, 2);
        CHECK.due("mealsTo(0)", 8, x.mealsTo(0));
        CHECK.due("cook(0, 3)", 2, x.cook(0, 3));
        CHECK.due("cook(0, 1)", 1, x.cook(0, 1));
        CHECK.due("mealsTo(0)", 4, x.mealsTo(0));
    }

    private static void promise2ClearKeepsWhatIsNoChange() {
        CopperStreet x = Check.streetWithPots(3);
        x.save();
        x.raise(0, 0);
        x.tin(0, 1);
        Check.read(x, "bars 9x");
        x.describe(2);
        Check.type(x, "abc");
        CHECK.due("clear()", 4, x.clear());
        CHECK.due("account(14)", 3, x.account(14));
        CHECK.due("fault()", 6, x.fault());
        reasonDue(x, 0, 6, 24);
        CHECK.due("line", "cauldron2:3", Check.line(x));
        CHECK.due("restore()", 3, x.restore());
        CHECK.due("account(0)", 27, x.account(0));
    }

    private static void promise3Append() {
        CopperStreet x = new CopperStreet();
        CHECK.due("append(31)", BAD, x.append((char) 31));
        CHECK.due("append(127)", BAD, x.append((char) 127));
        CHECK.due("append(0)", BAD, x.append((char) 0));
        CHECK.due("append(200)", BAD, x.append((char) 200));
        CHECK.due("append(65535)", BAD, x.append((char) 65535));
        CHECK.due("append(256 + 65)", BAD, x.append((char) (256 + 65)));
        CHECK.due("account(14)", 0, x.account(14));
        CHECK.due("append(32)", 1, x.append((char) 32));
        CHECK.due("append(126)", 2, x.append((char) 126));
        for (int length = 3; length <= 60; length++) {
            CHECK.due("append('a')", length, x.append('a'));
        }
        CHECK.due("append('a') beyond 60", BAD, x.append('a'));
        CHECK.due("append(7) beyond 60", BAD, x.append((char) 7));
        CHECK.due("account(14)", 60, x.account(14));
        CHECK.due("account(15)", 0, x.account(15));
        CHECK.due("read()", BAD, x.read());
        CHECK.due("append('a') after read", 1, x.append('a'));
    }

    private static void promise4Sheet() {
        CopperStreet x = new CopperStreet();
        CHECK.due("sheet(0, 20)", BAD, x.sheet(0, 20));
        CHECK.due("sheet(10, 20)", BAD, x.sheet(10, 20));
        CHECK.due("sheet(-1, 20)", BAD, x.sheet(-1, 20));
        CHECK.due("sheet(5, 9)", BAD, x.sheet(5, 9));
        CHECK.due("sheet(5, 61)", BAD, x.sheet(5, 61));
        CHECK.due("sheet(MIN, MAX)", BAD, x.sheet(Integer.MIN_VALUE, Integer.MAX_VALUE));
        CHECK.due("account(15)", 0, x.account(15));
        CHECK.due("sheet(9, 10)", 0, x.sheet(9, 10));
        CHECK.due("account(0)", 21, x.account(0));
        CHECK.due("sheet(1, 60)", 1, x.sheet(1, 60));
        CHECK.due("account(0)", 20, x.account(0));
        CHECK.due("account(2)", 2, x.account(2));
        CHECK.due("account(15)", 2, x.account(15));
        x.sheet(9, 30);
        x.sheet(8, 30);
        CHECK.due("sheet(4, 30)", REFUSED, x.sheet(4, 30));
        reasonDue(x, 0, 2, 1);
        CHECK.due("sheet(9, 30)", REFUSED, x.sheet(9, 30));
        reasonDue(x, 0, 2, 6);
        reasonDue(x, 1, NOTHING, NOTHING);
        CHECK.due("account(0)", 3, x.account(0));
        CHECK.due("account(15)", 4, x.account(15));
        CHECK.due("sheet(3, 30) for the last coins", 4, x.sheet(3, 30));
        CHECK.due("account(0)", 0, x.account(0));
        CHECK.due("sheet(1, 9) without coins", BAD, x.sheet(1, 9));
    }

    private static void promise4SheetLimit() {
        CopperStreet x = new CopperStreet();
        for (int number = 0; number < 12; number++) {
            CHECK.due("sheet(1, 10)", number, x.sheet(1, 10 + number));
        }
        CHECK.due("sheet(1, 10) beyond 12", REFUSED, x.sheet(1, 10));
        reasonDue(x, 0, 1, 12);
        x.bars(18);
        CHECK.due("sheet(1, 10) beyond 12 without coins", REFUSED, x.sheet(1, 10));
        reasonDue(x, 0, 1, 12);
        CHECK.due("sheet(0, 10) beyond 12", BAD, x.sheet(0, 10));
        CHECK.due("account(2)", 12, x.account(2));
        CHECK.due("sheetOf(11, 3)", 21, x.sheetOf(11, 3));
    }

    private static void promise5Raise() {
        CopperStreet x = new CopperStreet();
        CHECK.due("raise(0, 0)", NONE, x.raise(0, 0));
        CHECK.due("raise(0, 7)", NONE, x.raise(0, 7));
        x.sheet(4, 41);
        CHECK.due("raise(-1, 0)", NONE, x.raise(-1, 0));
        CHECK.due("raise(1, 0)", NONE, x.raise(1, 0));
        CHECK.due("raise(MAX, 3)", NONE, x.raise(Integer.MAX_VALUE, 3));
        CHECK.due("raise(0, 3)", BAD, x.raise(0, 3));
        CHECK.due("raise(0, -1)", BAD, x.raise(0, -1));
        CHECK.due("raise(0, 0)", 0, x.raise(0, 0));
        CHECK.due("raise(0, 1)", 1, x.raise(0, 1));
        CHECK.due("raise(0, 2)", 2, x.raise(0, 2));
        CHECK.due("sheetOf(0, 1)", 1, x.sheetOf(0, 1));
        CHECK.due("raise(0, 0)", REFUSED, x.raise(0, 0));
        reasonDue(x, 0, 3, 11);
        CHECK.due("raise(0, 1)", REFUSED, x.raise(0, 1));
        reasonDue(x, 0, 3, 7);
        CHECK.due("raise(0, 2)", REFUSED, x.raise(0, 2));
        reasonDue(x, 0, 3, 19);
        CHECK.due("sheetOf(0, 1)", 1, x.sheetOf(0, 1));
        CHECK.due("sheetOf(0, 2)", 3, x.sheetOf(0, 2));
        x.sheet(7, 20);
        CHECK.due("raise(1, 2)", 3, x.raise(1, 2));
        int[] due = {2, 7, 7, 0, 0, 0, 0, 0, NOTHING, 1};
        for (int what = 0; what < due.length; what++) {
            CHECK.due("potOf(3, " + what + ")", due[what], x.potOf(3, what));
        }
        CHECK.due("account(15)", 6, x.account(15));
    }

    private static void promise5RaiseLimit() {
        CopperStreet x = new CopperStreet();
        x.sheet(1, 60);
        x.sheet(1, 60);
        x.sheet(1, 60);
        for (int number = 0; number < 16; number++) {
            CHECK.due("raise", number, x.raise(number / 7, 1));
        }
        CHECK.due("raise(2, 1) beyond 16", REFUSED, x.raise(2, 1));
        reasonDue(x, 0, 1, 16);
        CHECK.due("raise(0, 1) beyond 16, too small", REFUSED, x.raise(0, 1));
        reasonDue(x, 0, 1, 16);
        CHECK.due("raise(2, 3) beyond 16", BAD, x.raise(2, 3));
        CHECK.due("raise(3, 1) beyond 16", NONE, x.raise(3, 1));
        CHECK.due("account(3)", 16, x.account(3));
    }

    private static void promise6Planish() {
        CopperStreet x = Check.streetWithPots(3);
        CHECK.due("planish(3, 1)", NONE, x.planish(3, 1));
        CHECK.due("planish(-1, 0)", NONE, x.planish(-1, 0));
        CHECK.due("planish(0, 0)", BAD, x.planish(0, 0));
        CHECK.due("planish(0, 100)", BAD, x.planish(0, 100));
        CHECK.due("planish(0, MIN)", BAD, x.planish(0, Integer.MIN_VALUE));
        CHECK.due("planish(0, 23)", 3, x.planish(0, 23));
        CHECK.due("potOf(0, 6)", 0, x.potOf(0, 6));
        CHECK.due("planish(0, 1)", 3, x.planish(0, 1));
        CHECK.due("potOf(0, 6)", 1, x.potOf(0, 6));
        CHECK.due("planish(0, 5)", 3, x.planish(0, 5));
        CHECK.due("planish(0, 1)", 2, x.planish(0, 1));
        CHECK.due("planish(0, 11)", 1, x.planish(0, 11));
        CHECK.due("potOf(0, 7)", 0, x.potOf(0, 7));
        CHECK.due("planish(0, 1)", 0, x.planish(0, 1));
        CHECK.due("potOf(0, 7)", 1, x.potOf(0, 7));
        CHECK.due("potOf(0, 3)", 42, x.potOf(0, 3));
        CHECK.due("planish(1, 99)", 0, x.planish(1, 99));
        CHECK.due("planish(2, 40)", 3, x.planish(2, 40));
        CHECK.due("planish(2, 6)", 2, x.planish(2, 6));
        CHECK.due("account(9)", 42 + 99 + 46, x.account(9));
        CHECK.due("account(15)", 8, x.account(15));
    }

    private static void promise6PlanishRefused() {
        CopperStreet x = Check.streetWithPots(2);
        x.planish(1, 16);
        x.tin(1, 3);
        x.baker(0, 1, 5);
        x.baker(1, 1, 5);
        x.sell(1, 1);
        CHECK.due("planish(1, 6)", REFUSED, x.planish(1, 6));
        reasonDue(x, 0, 4, 1);
        reasonDue(x, 1, NOTHING, NOTHING);
        CHECK.due("planish(1, 0)", BAD, x.planish(1, 0));
        CHECK.due("potOf(1, 3)", 16, x.potOf(1, 3));
        x.planish(2, 52);
        CHECK.due("potOf(2, 7)", 1, x.potOf(2, 7));
        CHECK.due("planish(2, 1)", REFUSED, x.planish(2, 1));
        reasonDue(x, 0, 5, 2);
        CHECK.due("potOf(2, 3)", 52, x.potOf(2, 3));
    }

    private static void promise7Bars() {
        CopperStreet x = new CopperStreet();
        CHECK.due("bars(0)", BAD, x.bars(0));
        CHECK.due("bars(51)", BAD, x.bars(51));
        CHECK.due("bars(-3)", BAD, x.bars(-3));
        CHECK.due("bars(31)", REFUSED, x.bars(31));
        reasonDue(x, 0, 2, 1);
        CHECK.due("bars(50)", REFUSED, x.bars(50));
        reasonDue(x, 0, 2, 20);
        CHECK.due("bars(1)", 21, x.bars(1));
        CHECK.due("account(0)", 29, x.account(0));
        CHECK.due("bars(29)", 50, x.bars(29));
        CHECK.due("account(0)", 0, x.account(0));
        CHECK.due("account(1)", 50, x.account(1));
        CHECK.due("bars(1)", REFUSED, x.bars(1));
        reasonDue(x, 0, 2, 1);
        CHECK.due("account(12)", 0, x.account(12));
        CHECK.due("account(15)", 2, x.account(15));
        CopperStreet y = Check.streetWithPots(1);
        y.planish(1, 16);
        y.tin(1, 3);
        y.baker(1, 3, 90);
        y.sell(1, 0);
        CHECK.due("bars(50)", 64, y.bars(50));
        CHECK.due("account(0)", 69, y.account(0));
    }

    private static void promise8Tin() {
        CopperStreet x = Check.streetWithPots(3);
        x.planish(0, 24);
        x.planish(1, 16);
        x.planish(2, 40);
        CHECK.due("tin(3, 1)", NONE, x.tin(3, 1));
        CHECK.due("tin(-1, 0)", NONE, x.tin(-1, 0));
        CHECK.due("tin(0, 0)", BAD, x.tin(0, 0));
        CHECK.due("tin(0, 10)", BAD, x.tin(0, 10));
        CHECK.due("tin(0, 1)", 1, x.tin(0, 1));
        CHECK.due("account(1)", 17, x.account(1));
        CHECK.due("tin(1, 2)", 2, x.tin(1, 2));
        CHECK.due("account(1)", 13, x.account(1));
        CHECK.due("tin(2, 1)", 1, x.tin(2, 1));
        CHECK.due("account(1)", 8, x.account(1));
        CHECK.due("tin(1, 1)", 3, x.tin(1, 1));
        CHECK.due("account(1)", 6, x.account(1));
        CHECK.due("account(11)", 5, x.account(11));
        CHECK.due("account(12)", 14, x.account(12));
        CHECK.due("tin(0, 2) with the last bars", 3, x.tin(0, 2));
        CHECK.due("account(1)", 0, x.account(1));
        CHECK.due("tin(1, 1)", REFUSED, x.tin(1, 1));
        reasonDue(x, 0, 8, 2);
        x.bars(12);
        CHECK.due("tin(1, 6)", 9, x.tin(1, 6));
        CHECK.due("potOf(1, 4)", 9, x.potOf(1, 4));
    }

    private static void promise8TinRefused() {
        CopperStreet x = Check.streetWithPots(2);
        CHECK.due("tin(2, 9)", REFUSED, x.tin(2, 9));
        reasonDue(x, 0, 6, 40);
        x.planish(2, 39);
        CHECK.due("tin(2, 1)", REFUSED, x.tin(2, 1));
        reasonDue(x, 0, 6, 1);
        x.planish(2, 1);
        CHECK.due("tin(2, 9)", REFUSED, x.tin(2, 9));
        reasonDue(x, 0, 8, 25);
        CHECK.due("tin(2, 4)", 4, x.tin(2, 4));
        CHECK.due("tin(2, 6)", REFUSED, x.tin(2, 6));
        reasonDue(x, 0, 7, 10);
        CHECK.due("tin(2, 9)", REFUSED, x.tin(2, 9));
        reasonDue(x, 0, 7, 13);
        CHECK.due("tin(2, 5)", REFUSED, x.tin(2, 5));
        reasonDue(x, 0, 8, 25);
        x.planish(2, 12);
        CHECK.due("tin(2, 9)", REFUSED, x.tin(2, 9));
        reasonDue(x, 0, 5, 2);
        CHECK.due("tin(2, 10)", BAD, x.tin(2, 10));
        CHECK.due("potOf(2, 4)", 4, x.potOf(2, 4));
        x.planish(1, 16);
        x.bars(10);
        x.tin(1, 4);
        x.baker(2, 1, 3);
        x.baker(1, 1, 3);
        x.sell(1, 1);
        CHECK.due("tin(1, 9)", REFUSED, x.tin(1, 9));
        reasonDue(x, 0, 4, 1);
        reasonDue(x, 1, NOTHING, NOTHING);
        CHECK.due("account(11)", 8, x.account(11));
    }

    private static void promise9Cook() {
        CopperStreet x = Check.streetWithPots(3);
        x.planish(0, 24);
        x.tin(0, 3);
        CHECK.due("cook(3, 1)", NONE, x.cook(3, 1));
        CHECK.due("cook(-1, 0)", NONE, x.cook(-1, 0));
        CHECK.due("cook(0, 0)", BAD, x.cook(0, 0));
        CHECK.due("cook(0, 100)", BAD, x.cook(0, 100));
        CHECK.due("cook(0, 3)", 3, x.cook(0, 3));
        CHECK.due("mealsTo(0)", 9, x.mealsTo(0));
        CHECK.due("cook(0, 1)", 2, x.cook(0, 1));
        CHECK.due("cook(0, 2)", 2, x.cook(0, 2));
        CHECK.due("tin(0, 1) leaves the meals", 3, x.tin(0, 1));
        CHECK.due("mealsTo(0)", 10, x.mealsTo(0));
        CHECK.due("cook(0, 2)", 2, x.cook(0, 2));
        CHECK.due("cook(0, 99)", 0, x.cook(0, 99));
        CHECK.due("potOf(0, 5)", 107, x.potOf(0, 5));
        CHECK.due("account(10)", 107, x.account(10));
        CHECK.due("tin(0, 1) after wearing through", 1, x.tin(0, 1));
        CHECK.due("mealsTo(0)", 4, x.mealsTo(0));
        CHECK.due("cook(0, 3)", 1, x.cook(0, 3));
        CHECK.due("cook(0, 1)", 0, x.cook(0, 1));
    }

    private static void promise9CookRefused() {
        CopperStreet x = Check.streetWithPots(2);
        CHECK.due("cook(1, 5)", REFUSED, x.cook(1, 5));
        reasonDue(x, 0, 9, 1);
        CHECK.due("potOf(1, 5)", 0, x.potOf(1, 5));
        x.planish(1, 16);
        CHECK.due("cook(1, 5)", REFUSED, x.cook(1, 5));
        reasonDue(x, 0, 9, 1);
        x.tin(1, 1);
        x.cook(1, 2);
        CHECK.due("cook(1, 1) worn through", REFUSED, x.cook(1, 1));
        reasonDue(x, 0, 9, 1);
        x.tin(1, 3);
        x.planish(1, 12);
        CHECK.due("cook(1, 1) cracked", REFUSED, x.cook(1, 1));
        reasonDue(x, 0, 5, 1);
        x.planish(2, 52);
        CHECK.due("cook(2, 1) cracked, without tin", REFUSED, x.cook(2, 1));
        reasonDue(x, 0, 5, 2);
        x.planish(0, 24);
        x.tin(0, 1);
        x.cook(0, 1);
        x.baker(1, 1, 1);
        x.baker(0, 1, 1);
        x.sell(0, 1);
        CHECK.due("cook(0, 1) sold", REFUSED, x.cook(0, 1));
        reasonDue(x, 0, 4, 1);
        CHECK.due("potOf(0, 5)", 1, x.potOf(0, 5));
    }

    private static void promise9CookEachKind() {
        int[] mealsToWear = {4, 2, 6};
        for (int kind = 0; kind < 3; kind++) {
            CopperStreet x = Check.streetWithPots(9);
            x.planish(kind, 40);
            x.tin(kind, 3);
            int meals = mealsToWear[kind];
            CHECK.due("cook just too few, kind " + kind, 3, x.cook(kind, meals - 1));
            CHECK.due("cook one more, kind " + kind, 2, x.cook(kind, 1));
            CHECK.due("cook through but one, kind " + kind, 1, x.cook(kind, 2 * meals - 1));
            CHECK.due("cook through, kind " + kind, 0, x.cook(kind, 1));
        }
    }

    private static void promise10Baker() {
        CopperStreet x = new CopperStreet();
        CHECK.due("baker(-1, 1, 1)", BAD, x.baker(-1, 1, 1));
        CHECK.due("baker(3, 1, 1)", BAD, x.baker(3, 1, 1));
        CHECK.due("baker(0, 0, 1)", BAD, x.baker(0, 0, 1));
        CHECK.due("baker(0, 10, 1)", BAD, x.baker(0, 10, 1));
        CHECK.due("baker(0, 1, 0)", BAD, x.baker(0, 1, 0));
        CHECK.due("baker(0, 1, 100)", BAD, x.baker(0, 1, 100));
        CHECK.due("account(7)", 0, x.account(7));
        CHECK.due("baker(0, 9, 99)", 0, x.baker(0, 9, 99));
        CHECK.due("baker(2, 1, 1)", 1, x.baker(2, 1, 1));
        for (int number = 2; number < 8; number++) {
            CHECK.due("baker(1, 3, 20)", number, x.baker(1, 3, 20));
        }
        CHECK.due("baker(1, 3, 20) beyond 8", REFUSED, x.baker(1, 3, 20));
        reasonDue(x, 0, 1, 8);
        CHECK.due("baker(3, 3, 20) beyond 8", BAD, x.baker(3, 3, 20));
        CHECK.due("account(7)", 8, x.account(7));
        CHECK.due("account(15)", 8, x.account(15));
        CHECK.due("account(0)", 30, x.account(0));
    }

    private static void promise11Sell() {
        CopperStreet x = Check.streetWithPots(3);
        x.planish(0, 24);
        x.planish(1, 16);
        x.tin(0, 3);
        x.tin(1, 4);
        x.baker(0, 1, 40);
        x.baker(1, 2, 33);
        CHECK.due("sell(3, 0)", NONE, x.sell(3, 0));
        CHECK.due("sell(0, 2)", NONE, x.sell(0, 2));
        CHECK.due("sell(-1, 0)", NONE, x.sell(-1, 0));
        CHECK.due("sell(0, -1)", NONE, x.sell(0, -1));
        CHECK.due("sell(0, 0) new", 27 + 40, x.sell(0, 0));
        CHECK.due("orderOf(0, 3)", 0, x.orderOf(0, 3));
        CHECK.due("orderOf(0, 4)", 40, x.orderOf(0, 4));
        CHECK.due("potOf(0, 8)", 0, x.potOf(0, 8));
        x.cook(1, 1);
        CHECK.due("sell(1, 1) used", 67 + 16, x.sell(1, 1));
        CHECK.due("orderOf(1, 4)", 16, x.orderOf(1, 4));
        CHECK.due("potOf(1, 8)", 1, x.potOf(1, 8));
        CHECK.due("account(0)", 83, x.account(0));
        CHECK.due("account(13)", 56, x.account(13));
        CHECK.due("account(8)", 2, x.account(8));
        CHECK.due("account(4)", 1, x.account(4));
        x.bars(3);
        x.raise(0, 1);
        x.planish(3, 16);
        x.tin(3, 1);
        x.cook(3, 2);
        x.tin(3, 1);
        x.baker(1, 1, 1);
        CHECK.due("sell(3, 2) worn through once, half of 1", 80, x.sell(3, 2));
        CHECK.due("orderOf(2, 4)", 0, x.orderOf(2, 4));
        CHECK.due("orderOf(2, 3)", 3, x.orderOf(2, 3));
        CHECK.due("account(8)", 3, x.account(8));
    }

    private static void promise11SellRefused() {
        CopperStreet x = Check.streetWithPots(3);
        x.planish(1, 16);
        x.tin(1, 3);
        x.baker(0, 1, 10);
        x.baker(1, 1, 10);
        x.baker(1, 1, 10);
        x.sell(1, 1);
        CHECK.due("sell(1, 1) again", REFUSED, x.sell(1, 1));
        reasonDue(x, 0, 10, 1);
        CHECK.due("sell(0, 1), filled", REFUSED, x.sell(0, 1));
        reasonDue(x, 0, 10, 1);
        CHECK.due("sell(1, 2), sold", REFUSED, x.sell(1, 2));
        reasonDue(x, 0, 4, 1);
        CHECK.due("sell(1, 0), sold", REFUSED, x.sell(1, 0));
        reasonDue(x, 0, 4, 1);
        reasonDue(x, 1, NOTHING, NOTHING);
        CHECK.due("account(0)", 37, x.account(0));
        CHECK.due("orderOf(2, 3)", NOTHING, x.orderOf(2, 3));
    }

    private static void promise11SellNotGood() {
        CopperStreet x = Check.streetWithPots(3);
        x.baker(1, 5, 10);
        x.planish(2, 58);
        CHECK.due("sell(2, 0), another kind, cracked", REFUSED, x.sell(2, 0));
        reasonDue(x, 0, 11, 2);
        reasonDue(x, 1, 12, 2);
        reasonDue(x, 2, NOTHING, NOTHING);
        CHECK.due("sell(1, 0), not smooth", REFUSED, x.sell(1, 0));
        reasonDue(x, 0, 11, 1);
        reasonDue(x, 1, 6, 16);
        x.planish(1, 16);
        CHECK.due("sell(1, 0), no tin", REFUSED, x.sell(1, 0));
        reasonDue(x, 1, 13, 5);
        x.tin(1, 4);
        CHECK.due("sell(1, 0), 1 of tin missing", REFUSED, x.sell(1, 0));
        reasonDue(x, 1, 13, 1);
        x.tin(1, 1);
        x.planish(1, 18);
        CHECK.due("sell(1, 0), cracked", REFUSED, x.sell(1, 0));
        reasonDue(x, 0, 11, 1);
        reasonDue(x, 1, 5, 1);
        x.undo();
        CHECK.due("sell(1, 0)", 37, x.sell(1, 0));
        x.baker(0, 1, 10);
        x.planish(0, 24);
        x.tin(0, 2);
        CHECK.due("sell(0, 1), tinned thin", REFUSED, x.sell(0, 1));
        reasonDue(x, 1, 13, 1);
        x.cook(0, 4);
        CHECK.due("sell(0, 1), not new", 42, x.sell(0, 1));
    }
}

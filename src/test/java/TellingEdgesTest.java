/** Promises 15 to 17, 33 to 38 and 41, sentence by sentence: what is told, summed up, and written. */
public final class TellingEdgesTest {
    private static final int NONE = CopperStreet.NONE;
    private static final int BAD = CopperStreet.BAD;
    private static final int NOTHING = CopperStreet.NOTHING;
    /** In a street with three pots. */
    private static final int[] NO_POTS = {-1, 3, Integer.MIN_VALUE, Integer.MAX_VALUE};

    public static void main(String[] args) throws ReflectiveOperationException {
        Edges.run(TellingEdgesTest.class);
    }

    // Promise 15: "0 its gauge; 1 its area that is left; 2 the pots raised from it; 3 its area at first"
    // Promise 15: "Returns a number of a sheet."
    // Promise 15: "Returns the number"
    // Broken in Sheet.tell: case 0: return gauge => case 0: return area
    // Broken in Sheet.tell: case 1: return area => case 1: return firstArea
    // Broken in Sheet.tell: case 2: return pots => case 2: return gauge
    // Broken in Sheet.tell: case 3: return firstArea => case 3: return area
    static void aSheetTellsFourNumbers(Check check) {
        CopperStreet x = new CopperStreet();
        x.sheet(1, 10);
        x.sheet(7, 50);
        x.raise(1, 0);
        x.raise(1, 2);
        check.due("gauge", 7, x.sheetOf(1, 0));
        check.due("area left", 18, x.sheetOf(1, 1));
        check.due("pots", 2, x.sheetOf(1, 2));
        check.due("area at first", 50, x.sheetOf(1, 3));
        check.due("pots of another sheet", 0, x.sheetOf(0, 2));
    }

    // Promise 15: "NONE if there is no such sheet"
    // Broken in Shop.sheetAt: number < sheetCount => number <= sheetCount
    // Broken in Shop.sheetAt: number >= 0 && => true &&
    // Broken in CopperStreet.sheetOf: ? NONE => ? BAD
    static void noSheetTellsNothing(Check check) {
        CopperStreet x = new CopperStreet();
        check.due("sheetOf(0, 0) in a new street", NONE, x.sheetOf(0, 0));
        x.sheet(2, 20);
        for (int sheet : new int[] {-1, 1, Integer.MIN_VALUE, Integer.MAX_VALUE}) {
            check.due("sheetOf(" + sheet + ", 0)", NONE, x.sheetOf(sheet, 0));
        }
        check.due("sheetOf(0, 0)", 2, x.sheetOf(0, 0));
    }

    // Promise 15: "BAD if there is no such what"
    // Broken in Sheet.tell: default: return BAD => default: return NONE
    // Broken in Sheet.tell: case 3: => case 4: case -1: case 3:
    static void aSheetHasNoOtherWhat(Check check) {
        CopperStreet x = new CopperStreet();
        x.sheet(2, 20);
        for (int what : new int[] {-1, 4, Integer.MIN_VALUE, Integer.MAX_VALUE}) {
            check.due("sheetOf(0, " + what + ")", BAD, x.sheetOf(0, what));
        }
    }

    // Promise 15, Terms: "If several codes apply, the one that is named first is returned."
    // Broken in CopperStreet.sheetOf: told == null ? NONE => told == null ? (what > 3 ? BAD : NONE)
    static void sheetOfTellsNoneBeforeBad(Check check) {
        check.due("sheetOf(0, 4) in a new street", NONE, new CopperStreet().sheetOf(0, 4));
    }

    // Promise 16: "0 its kind; 1 its gauge; 2 its thickness; 3 its blows; 4 its tin; 5 the meals cooked in it"
    // Promise 16: "9 its sheet"
    // Promise 16: "Returns a number of a pot."
    // Promise 16: "Returns the number"
    // Broken in Pot.tell: case 0: return kind.number => case 0: return kind.area
    // Broken in Pot.tell: case 1: return gauge => case 1: return thickness()
    // Broken in Pot.tell: case 2: return thickness() => case 2: return gauge
    // Broken in Pot.tell: case POT_BLOWS: return blows => case POT_BLOWS: return blows - kind.smoothBlows
    // Broken in Pot.tell: case 4: return tin => case 4: return mealsNotWorn
    // Broken in Pot.tell: case POT_MEALS: return meals => case POT_MEALS: return mealsNotWorn
    // Broken in Pot.tell: case 9: return sheet => case 9: return number
    static void aPotTellsItsNumbers(Check check) {
        CopperStreet x = new CopperStreet();
        x.sheet(1, 10);
        x.sheet(5, 40);
        x.raise(1, 1);
        x.planish(0, 23);
        x.tin(0, 6);
        x.cook(0, 5);
        int[] due = {1, 5, 4, 23, 4, 5};
        for (int what = 0; what < due.length; what++) {
            check.due("potOf(0, " + what + ")", due[what], x.potOf(0, what));
        }
        check.due("potOf(0, 9)", 1, x.potOf(0, 9));
    }

    // Promise 16: "6 for 1 if it is smooth, otherwise 0"
    // Broken in Pot.tell: isSmooth() ? 1 : 0 => isSmooth() ? 1 : NONE
    // Broken in Pot.tell: isSmooth() ? 1 : 0 => isSmooth() && !isCracked() ? 1 : 0
    // Broken in Pot.isSmooth: >= => >
    static void what6TellsWhetherItIsSmooth(Check check) {
        CopperStreet x = Check.streetWithPots(1);
        check.due("without blows", 0, x.potOf(1, 6));
        x.planish(1, 15);
        check.due("with one blow missing", 0, x.potOf(1, 6));
        x.planish(1, 1);
        check.due("just smooth", 1, x.potOf(1, 6));
        x.planish(1, 6);
        check.due("cracked", 1, x.potOf(1, 6));
    }

    // Promise 16: "7 for 1 if it is cracked, otherwise 0"
    // Broken in Pot.tell: isCracked() ? 1 : 0 => isCracked() ? 1 : NONE
    // Broken in Pot.tell: isCracked() ? 1 : 0 => isSmooth() ? 1 : 0
    // Broken in Pot.isCracked: >= => >
    static void what7TellsWhetherItIsCracked(Check check) {
        CopperStreet x = Check.streetWithPots(1);
        check.due("without blows", 0, x.potOf(1, 7));
        x.planish(1, 21);
        check.due("with one blow missing", 0, x.potOf(1, 7));
        x.planish(1, 1);
        check.due("just cracked", 1, x.potOf(1, 7));
    }

    // Promise 16: "8 its order, or NOTHING if it is not sold"
    // Broken in Pot.tell: case 8: return order => case 8: return isSold() ? order : NONE
    // Broken in Pot.arrive: order = NOTHING => order = 0
    static void what8TellsTheOrder(Check check) {
        CopperStreet x = Streets.withGoodPans(2);
        x.baker(0, 1, 9);
        x.baker(1, 1, 9);
        check.due("before the sale", NOTHING, x.potOf(1, 8));
        x.sell(1, 1);
        check.due("after the sale", 1, x.potOf(1, 8));
        check.due("of another pot", NOTHING, x.potOf(0, 8));
    }

    // Promise 16: "NONE if there is no such pot"
    // Broken in Shop.potAt: number < potCount => number <= potCount
    // Broken in Shop.potAt: number >= 0 && => true &&
    // Broken in CopperStreet.potOf: ? NONE => ? BAD
    static void noPotTellsNothing(Check check) {
        CopperStreet x = Check.streetWithPots(2);
        for (int pot : NO_POTS) {
            check.due("potOf(" + pot + ", 0)", NONE, x.potOf(pot, 0));
        }
        check.due("potOf(2, 0)", 2, x.potOf(2, 0));
        check.due("potOf(0, 0) in a new street", NONE, new CopperStreet().potOf(0, 0));
    }

    // Promise 16: "BAD if there is no such what"
    // Broken in Pot.tell: default: return BAD => default: return NONE
    // Broken in Pot.tell: case 9: => case 10: case -1: case 9:
    static void aPotHasNoOtherWhat(Check check) {
        CopperStreet x = Check.streetWithPots(2);
        for (int what : new int[] {-1, 10, Integer.MIN_VALUE, Integer.MAX_VALUE}) {
            check.due("potOf(0, " + what + ")", BAD, x.potOf(0, what));
        }
    }

    // Promise 16, Terms: "If several codes apply, the one that is named first is returned."
    // Broken in CopperStreet.potOf: told == null ? NONE => told == null ? (what > 9 ? BAD : NONE)
    static void potOfTellsNoneBeforeBad(Check check) {
        check.due("potOf(3, 10)", NONE, Check.streetWithPots(2).potOf(3, 10));
    }

    // Promise 16, Terms: "What is told of a pot that is sold stays as it was."
    // Broken in Smith.handOver: pot.order = orderNumber; => pot.order = orderNumber; pot.tin = 0;
    // Broken in Smith.handOver: pot.order = orderNumber; => pot.order = orderNumber; pot.blows = 0;
    // Broken in Smith.isWorkable: if (pot.isSold()) => if (pot.isSold() && false)
    static void aSoldPotTellsWhatItDid(Check check) {
        CopperStreet x = Streets.withGoodPans(1);
        x.tin(0, 1);
        x.cook(0, 3);
        x.baker(1, 1, 9);
        x.sell(0, 0);
        x.planish(0, 1);
        x.tin(0, 1);
        x.cook(0, 1);
        int[] due = {1, 1, 1, 16, 3, 3, 1, 0, 0, 0};
        for (int what = 0; what < due.length; what++) {
            check.due("potOf(0, " + what + ")", due[what], x.potOf(0, what));
        }
        check.due("mealsTo(0)", 5, x.mealsTo(0));
        check.due("sound(0)", 50, x.sound(0));
        check.due("blowsTo(0, 1)", 6, x.blowsTo(0, 1));
    }

    // Promise 17: "0 its kind; 1 its tin; 2 its pay"
    // Promise 17: "Returns a number of an order."
    // Promise 17: "Returns the number"
    // Broken in Order.tell: case 0: return kind.number => case 0: return tin
    // Broken in Order.tell: case 1: return tin => case 1: return pay
    // Broken in Order.tell: case 2: return pay => case 2: return paid
    static void anOrderTellsItsNumbers(Check check) {
        CopperStreet x = new CopperStreet();
        x.baker(0, 1, 1);
        x.baker(2, 5, 70);
        check.due("kind", 2, x.orderOf(1, 0));
        check.due("tin", 5, x.orderOf(1, 1));
        check.due("pay", 70, x.orderOf(1, 2));
    }

    // Promise 17: "3 its pot, or NOTHING if it is not filled"
    // Broken in Order.tell: case 3: return pot => case 3: return isFilled() ? pot : NONE
    // Broken in Order.arrive: pot = NOTHING => pot = 0
    static void what3TellsThePot(Check check) {
        CopperStreet x = Streets.withGoodPans(2);
        x.baker(0, 1, 9);
        x.baker(1, 1, 9);
        check.due("before the sale", NOTHING, x.orderOf(1, 3));
        x.sell(1, 1);
        check.due("after the sale", 1, x.orderOf(1, 3));
        check.due("of another order", NOTHING, x.orderOf(0, 3));
    }

    // Promise 17: "4 what was paid, or 0"
    // Broken in Order.tell: case 4: return paid => case 4: return isFilled() ? paid : NOTHING
    // Broken in Order.tell: case 4: return paid => case 4: return pay
    static void what4TellsWhatWasPaid(Check check) {
        CopperStreet x = Streets.withGoodPans(1);
        x.baker(1, 1, 21);
        check.due("before the sale", 0, x.orderOf(0, 4));
        x.cook(0, 1);
        x.sell(0, 0);
        check.due("after the sale", 10, x.orderOf(0, 4));
        check.due("the pay stays", 21, x.orderOf(0, 2));
    }

    // Promise 17: "NONE if there is no such order"
    // Broken in Shop.orderAt: number < orderCount => number <= orderCount
    // Broken in Shop.orderAt: number >= 0 && => true &&
    // Broken in CopperStreet.orderOf: ? NONE => ? BAD
    static void noOrderTellsNothing(Check check) {
        CopperStreet x = new CopperStreet();
        check.due("orderOf(0, 0) in a new street", NONE, x.orderOf(0, 0));
        x.baker(2, 1, 1);
        for (int order : new int[] {-1, 1, Integer.MIN_VALUE, Integer.MAX_VALUE}) {
            check.due("orderOf(" + order + ", 0)", NONE, x.orderOf(order, 0));
        }
        check.due("orderOf(0, 0)", 2, x.orderOf(0, 0));
    }

    // Promise 17: "BAD if there is no such what"
    // Broken in Order.tell: default: return BAD => default: return NONE
    // Broken in Order.tell: case 4: => case 5: case -1: case 4:
    static void anOrderHasNoOtherWhat(Check check) {
        CopperStreet x = new CopperStreet();
        x.baker(2, 1, 1);
        for (int what : new int[] {-1, 5, Integer.MIN_VALUE, Integer.MAX_VALUE}) {
            check.due("orderOf(0, " + what + ")", BAD, x.orderOf(0, what));
        }
    }

    // Promise 17, Terms: "If several codes apply, the one that is named first is returned."
    // Broken in CopperStreet.orderOf: told == null ? NONE => told == null ? (what > 4 ? BAD : NONE)
    static void orderOfTellsNoneBeforeBad(Check check) {
        check.due("orderOf(0, 5) in a new street", NONE, new CopperStreet().orderOf(0, 5));
    }

    private static void copperDue(Check check, CopperStreet x, int copper) {
        check.due("copper()", copper, x.copper());
        check.due("copperAgain()", copper, x.copperAgain());
    }

    // Promise 33: "the areas that are left, and those of all pots, each times its gauge"
    // Promise 33: "Returns the copper."
    // Broken in Shop.copperByPart: sheets[i].area * sheets[i].gauge => sheets[i].firstArea * sheets[i].gauge
    // Broken in Shop.copperByPart: pots[i].kind.area * pots[i].gauge => pots[i].kind.area * pots[i].thickness()
    // Broken in Shop.copperByPart: pots[i].kind.area * pots[i].gauge => (pots[i].isSold() ? 0 : pots[i].kind.area * pots[i].gauge)
    static void copperCountsSheetsAndAllPots(Check check) {
        CopperStreet x = new CopperStreet();
        x.sheet(3, 25);
        x.sheet(2, 11);
        check.due("copper() of sheets", 97, x.copper());
        x.raise(0, 0);
        x.raise(1, 1);
        check.due("copper() of sheets and pots", 97, x.copper());
        x.planish(0, 42);
        check.due("copper() with a cracked pot", 97, x.copper());
        x.planish(1, 16);
        x.tin(1, 3);
        x.baker(1, 1, 9);
        x.sell(1, 0);
        check.due("copper() with a sold pot", 97, x.copper());
    }

    // Promise 33, Terms: "At most 16 pots are raised in all"
    // Broken in Shop.copperByPart: i < potCount => i <= potCount
    // Broken in Shop.copperByPart: i < sheetCount => i <= sheetCount
    // Broken in Shop.copperByPart: i < potCount => i < Math.min(potCount, 15)
    // Broken in Shop.copperByPart: i < sheetCount => i < Math.min(sheetCount, 11)
    static void copperOfAFullStreet(Check check) {
        CopperStreet x = Streets.withPans(16);
        for (int sheet = 3; sheet < 12; sheet++) {
            x.sheet(2, 10);
        }
        check.due("copper()", 180 + 180, x.copper());
        x.undo();
        check.due("copper() without the last sheet", 180 + 160, x.copper());
        CopperStreet y = Check.streetWithPots(2);
        y.undo();
        check.due("copper() without the last pot", 120, y.copper());
    }

    // Promise 33: "Returns the copper of all pots and sheets"
    // Broken in Shop.copperByPart: int copper = 0; => int copper = sheetCount == 0 ? NOTHING : 0;
    static void copperIs0WithoutSheets(Check check) {
        check.due("copper() in a new street", 0, new CopperStreet().copper());
    }

    // Promise 34: "Returns the same by a second way: sheet by sheet, the area at first times the gauge."
    // Promise 34: "Returns the copper."
    // Broken in Shop.copperBySheet: sheets[i].firstArea => sheets[i].area
    // Broken in Shop.copperBySheet: * sheets[i].gauge => * 1
    // Broken in Shop.copperBySheet: int copper = 0; => int copper = sheetCount == 0 ? NOTHING : 0;
    static void copperAgainIsTheSame(Check check) {
        CopperStreet x = new CopperStreet();
        copperDue(check, x, 0);
        x.sheet(9, 60);
        copperDue(check, x, 540);
        x.raise(0, 2);
        x.planish(0, 99);
        copperDue(check, x, 540);
        for (int sheet = 1; sheet < 12; sheet++) {
            x.sheet(1, 10);
        }
        copperDue(check, x, 650);
    }

    // Promise 35: "the 30 at first, and what was paid for orders, less what sheets and bars cost"
    // Promise 35: "Returns the coins by a second way"
    // Promise 35: "Returns the coins."
    // Broken in CopperStreet.coinsAgain: FIRST_COINS + => FIRST_BARS +
    // Broken in CopperStreet.coinsAgain: + shop.paidSoFar() => + 0
    // Broken in CopperStreet.coinsAgain: - shop.sheetsCost() => - shop.sheetCount
    // Broken in CopperStreet.coinsAgain: - shop.barsBought => - 0
    // Broken in Shop.paidSoFar: orders[i].paid => orders[i].pay
    // Broken in Shop.sheetsCost: cost += sheets[i].gauge => cost = sheets[i].gauge
    // Broken in Smith.buyBars: shop.barsBought += bars => shop.barsBought = bars
    static void coinsAgainIsTheSame(Check check) {
        CopperStreet x = new CopperStreet();
        check.due("coinsAgain() in a new street", 30, x.coinsAgain());
        x.sheet(4, 20);
        check.due("coinsAgain() with a sheet", 26, x.coinsAgain());
        x.sheet(3, 10);
        check.due("coinsAgain() with two sheets", 23, x.coinsAgain());
        x.bars(20);
        x.bars(3);
        check.due("coinsAgain() without coins", 0, x.coinsAgain());
        x.raise(0, 1);
        x.planish(0, 16);
        x.tin(0, 3);
        x.cook(0, 1);
        x.baker(1, 1, 33);
        x.baker(1, 1, 50);
        x.sell(0, 0);
        check.due("coinsAgain() with a sale", 16, x.coinsAgain());
        check.due("account(0)", 16, x.account(0));
    }

    // Promise 36: "the 20 at first and those bought, less those used"
    // Promise 36: "Returns the bars by a second way"
    // Promise 36: "Returns the bars."
    // Broken in CopperStreet.barsAgain: FIRST_BARS + => FIRST_COINS +
    // Broken in CopperStreet.barsAgain: + shop.barsBought => + 0
    // Broken in CopperStreet.barsAgain: - shop.barsUsed => - shop.coats
    // Broken in Smith.buyBars: shop.barsBought += bars => shop.barsBought = bars
    static void barsAgainIsTheSame(Check check) {
        CopperStreet x = Streets.withSmoothPots(1);
        check.due("barsAgain() at first", 20, x.barsAgain());
        x.bars(3);
        x.bars(1);
        check.due("barsAgain() with some bought", 24, x.barsAgain());
        x.tin(0, 8);
        check.due("barsAgain() with all used", 0, x.barsAgain());
        check.due("account(1)", 0, x.account(1));
    }

    private static void lineDue(Check check, CopperStreet x, int pot, String line) {
        check.due("describe(" + pot + ")", line.length(), x.describe(pot));
        check.due("line", line, Check.line(x));
    }

    // Promise 37: ""kettle", "pan" or "cauldron", its number, ":" and its thickness"
    // Broken in Kind: KETTLE("kettle" => KETTLE("pot"
    // Broken in Kind: PAN("pan" => PAN("pot"
    // Broken in Kind: CAULDRON("cauldron" => CAULDRON("pot"
    // Broken in Pot.writeTo: append(number) => append(kind.number)
    // Broken in Pot.writeTo: append(thickness()) => append(gauge)
    static void theLineTellsKindNumberAndThickness(Check check) {
        CopperStreet x = Check.streetWithPots(2);
        lineDue(check, x, 0, "kettle0:2");
        lineDue(check, x, 1, "pan1:2");
        lineDue(check, x, 2, "cauldron2:2");
        x.raise(0, 1);
        lineDue(check, x, 3, "pan3:2");
        x.planish(3, 22);
        lineDue(check, x, 3, "pan3:1*");
    }

    // Promise 37: "its number"
    // Broken in Pot.writeTo: append(number) => append(number % 10)
    static void theLineTellsNumbersOfTwoDigits(Check check) {
        CopperStreet x = Streets.withPans(16);
        lineDue(check, x, 9, "pan9:1");
        lineDue(check, x, 10, "pan10:1");
        lineDue(check, x, 15, "pan15:1");
    }

    // Promise 37: ""*" if it is smooth"
    // Broken in Pot.writeTo: if (isSmooth()) => if (blows + 1 >= kind.smoothBlows)
    // Broken in Pot.writeTo: if (isSmooth()) => if (blows > kind.smoothBlows)
    static void theLineTellsThatItIsSmooth(Check check) {
        CopperStreet x = Check.streetWithPots(2);
        x.planish(1, 15);
        lineDue(check, x, 1, "pan1:2");
        x.planish(1, 1);
        lineDue(check, x, 1, "pan1:2*");
    }

    // Promise 37: ""+" and its tin if it has some"
    // Broken in Pot.writeTo: if (tin > 0) => if (tin >= 0)
    // Broken in Pot.writeTo: if (tin > 0) => if (tin > 1)
    static void theLineTellsItsTin(Check check) {
        CopperStreet x = Streets.withSmoothPots(2);
        lineDue(check, x, 1, "pan1:2*");
        x.tin(1, 1);
        lineDue(check, x, 1, "pan1:2*+1");
        x.tin(1, 8);
        lineDue(check, x, 1, "pan1:2*+9");
        x.cook(1, 18);
        lineDue(check, x, 1, "pan1:2* used");
    }

    // Promise 37: ""!" if it is cracked"
    // Broken in Pot.writeTo: if (isCracked()) => if (isCracked() && tin == 0)
    // Broken in Pot.writeTo: if (isCracked()) => if (thickness() <= 1)
    static void theLineTellsThatItIsCracked(Check check) {
        CopperStreet x = Streets.withSmoothPots(1);
        x.tin(1, 2);
        x.planish(1, 5);
        lineDue(check, x, 1, "pan1:1*+2");
        x.planish(1, 1);
        lineDue(check, x, 1, "pan1:0*+2!");
    }

    // Promise 37: "" used" if it is not new"
    // Broken in Pot.writeTo: if (!isNew()) => if (meals > 1)
    // Broken in Pot.writeTo: if (!isNew()) => if (!isNew() && !isCracked())
    static void theLineTellsThatItIsUsed(Check check) {
        CopperStreet x = Streets.withGoodPans(1);
        lineDue(check, x, 0, "pan0:1*+3");
        x.cook(0, 1);
        lineDue(check, x, 0, "pan0:1*+3 used");
        x.planish(0, 6);
        lineDue(check, x, 0, "pan0:0*+3! used");
    }

    // Promise 37: "and " sold" if it is sold"
    // Promise 37: "as in "pan3:4*+2 used""
    // Broken in Pot.writeTo: if (isSold()) => if (isSold() && isNew())
    // Broken in Pot.writeTo: if (isSold()) => if (isSold() && !isNew())
    static void theLineTellsThatItIsSold(Check check) {
        CopperStreet x = Streets.withSoldPan();
        lineDue(check, x, 2, "pan2:1*+3 sold");
        CopperStreet y = Check.streetWithPots(4);
        y.raise(0, 1);
        y.planish(3, 16);
        y.tin(3, 3);
        y.cook(3, 2);
        lineDue(check, y, 3, "pan3:4*+2 used");
        y.baker(1, 2, 9);
        y.sell(3, 0);
        lineDue(check, y, 3, "pan3:4*+2 used sold");
    }

    // Promise 37: "Writes a line about a pot, in place of the one before"
    // Promise 37: "Returns the length of the line"
    // Broken in CopperStreet.describe: line.setLength(0); => ;
    // Broken in CopperStreet.describe: return line.length(); => return line.length() + 1;
    static void aLineStandsInPlaceOfTheOneBefore(Check check) {
        CopperStreet x = Check.streetWithPots(2);
        check.due("describe(2)", 11, x.describe(2));
        check.due("describe(1)", 6, x.describe(1));
        check.due("line", "pan1:2", Check.line(x));
        check.due("written(6)", NONE, x.written(6));
    }

    // Promise 37: "NONE if there is no such pot"
    // Promise 37, Terms: "A call that returns a code leaves everything as it was"
    // Broken in Shop.potAt: number < potCount => number <= potCount
    // Broken in Shop.potAt: number >= 0 && => true &&
    // Broken in CopperStreet.describe: return NONE; => return 0;
    // Broken in CopperStreet.describe: return NONE; => line.setLength(0); return NONE;
    static void noPotIsDescribed(Check check) {
        CopperStreet x = Check.streetWithPots(2);
        x.describe(1);
        for (int pot : NO_POTS) {
            check.due("describe(" + pot + ")", NONE, x.describe(pot));
        }
        check.due("line as it was", "pan1:2", Check.line(x));
    }

    // Promise 38: "Returns the code of a character of the written line"
    // Promise 38: "its index, from 0"
    // Promise 38: "NONE if there is none"
    // Promise 38: "Returns the code"
    // Broken in CopperStreet.written: index >= 0 => index >= -1
    // Broken in CopperStreet.written: index >= 0 => index > 0
    // Broken in CopperStreet.written: index < line.length() => index <= line.length()
    // Broken in CopperStreet.written: index < line.length() => index < line.length() - 1
    static void writtenEndsWithTheLine(Check check) {
        CopperStreet x = Check.streetWithPots(2);
        x.describe(1);
        check.due("written(-1)", NONE, x.written(-1));
        check.due("written(0)", 'p', x.written(0));
        check.due("written(5)", '2', x.written(5));
        check.due("written(6)", NONE, x.written(6));
        check.due("written(MIN)", NONE, x.written(Integer.MIN_VALUE));
        check.due("written(MAX)", NONE, x.written(Integer.MAX_VALUE));
    }

    // Promise 38: "which is empty at first"
    // Broken in CopperStreet: private final StringBuilder line = new StringBuilder(); => private final StringBuilder line = new StringBuilder().append('-');
    static void theLineIsEmptyAtFirst(Check check) {
        CopperStreet x = Check.streetWithPots(2);
        check.due("written(0)", NONE, x.written(0));
        x.describe(3);
        check.due("written(0) after no pot was described", NONE, x.written(0));
    }

    // Promise 41: "0 the coins; 1 the bars"
    // Promise 41: "Returns an account."
    // Promise 41: "Returns the account"
    // Broken in CopperStreet.account: case 0: return shop.coins => case 0: return shop.bars
    // Broken in CopperStreet.account: case 1: return shop.bars => case 1: return shop.barsBought
    static void theAccountsOfCoinsAndBars(Check check) {
        CopperStreet x = new CopperStreet();
        x.bars(3);
        check.due("account(0)", 27, x.account(0));
        check.due("account(1)", 23, x.account(1));
    }

    // Promise 41: "2 the sheets; 3 the pots; 4 those in the shop"
    // Broken in CopperStreet.account: case 2: return shop.sheetCount => case 2: return shop.potCount
    // Broken in CopperStreet.account: case 3: return shop.potCount => case 3: return shop.potCount - shop.soldPots()
    // Broken in CopperStreet.account: shop.potCount - shop.soldPots() => shop.potCount
    static void theAccountsOfSheetsAndPots(Check check) {
        CopperStreet x = Streets.withSoldPan();
        check.due("account(2)", 1, x.account(2));
        check.due("account(3)", 3, x.account(3));
        check.due("account(4)", 2, x.account(4));
    }

    // Promise 41: "5 those that are smooth; 6 those that are cracked"
    // Broken in CopperStreet.account: shop.sumOfPots(POT_IS_SMOOTH) => shop.sumOfPots(POT_IS_CRACKED)
    // Broken in CopperStreet.account: shop.sumOfPots(POT_IS_CRACKED) => shop.sumOfPots(POT_IS_SMOOTH)
    static void theAccountsOfSmoothAndCrackedPots(Check check) {
        CopperStreet x = Streets.withSoldPan();
        x.raise(0, 1);
        x.planish(0, 6);
        check.due("account(5), the sold and the cracked one too", 3, x.account(5));
        check.due("account(6)", 1, x.account(6));
    }

    // Promise 41: "7 the orders; 8 those that are filled"
    // Broken in CopperStreet.account: case 7: return shop.orderCount => case 7: return shop.orderCount - shop.soldPots()
    // Broken in CopperStreet.account: case 8: return shop.soldPots() => case 8: return shop.orderCount
    static void theAccountsOfOrders(Check check) {
        CopperStreet x = Streets.withSoldPan();
        x.baker(1, 1, 1);
        check.due("account(7)", 2, x.account(7));
        check.due("account(8)", 1, x.account(8));
    }

    // Promise 41: "9 the blows so far; 10 the meals so far"
    // Broken in CopperStreet.account: shop.sumOfPots(POT_BLOWS) => shop.sumOfPots(POT_MEALS)
    // Broken in CopperStreet.account: shop.sumOfPots(POT_MEALS) => shop.sumOfPots(POT_BLOWS)
    static void theAccountsOfBlowsAndMeals(Check check) {
        CopperStreet x = Streets.withSmoothPots(2);
        x.tin(0, 1);
        x.tin(1, 1);
        x.cook(0, 9);
        x.cook(1, 4);
        check.due("account(9)", 80, x.account(9));
        check.due("account(10)", 13, x.account(10));
    }

    // Promise 41: "11 the coats of tin so far; 12 the bars used so far"
    // Broken in CopperStreet.account: case 11: return shop.coats => case 11: return shop.barsUsed
    // Broken in CopperStreet.account: case 12: return shop.barsUsed => case 12: return shop.barsUsed - shop.barsBought
    // Broken in Smith.coat: shop.coats += coats => shop.coats++
    static void theAccountsOfCoatsAndBarsUsed(Check check) {
        CopperStreet x = Streets.withSmoothPots(2);
        x.bars(2);
        x.tin(0, 2);
        x.tin(1, 3);
        x.cook(1, 2);
        check.due("account(11)", 5, x.account(11));
        check.due("account(12)", 12, x.account(12));
    }

    // Promise 41: "13 what was paid so far"
    // Broken in Shop.paidSoFar: paid += orders[i].paid => paid = orders[i].paid
    // Broken in Shop.paidSoFar: paid += orders[i].paid => paid += orders[i].pay
    static void theAccountOfWhatWasPaid(Check check) {
        CopperStreet x = Streets.withGoodPans(2);
        x.baker(1, 1, 30);
        x.baker(1, 1, 21);
        x.cook(1, 1);
        check.due("account(13) before a sale", 0, x.account(13));
        x.sell(0, 0);
        x.sell(1, 1);
        check.due("account(13)", 40, x.account(13));
    }

    // Promise 41: "14 the characters of the input; 15 the changes that can be undone"
    // Broken in CopperStreet.account: case 14: return script.length() => case 14: return line.length()
    // Broken in CopperStreet.account: case 15: return history.size() => case 15: return MOST_CHANGES
    static void theAccountsOfCharactersAndChanges(Check check) {
        CopperStreet x = new CopperStreet();
        check.due("account(14) at first", 0, x.account(14));
        check.due("account(15) at first", 0, x.account(15));
        Check.type(x, "bars 1");
        x.bars(1);
        x.bars(1);
        check.due("account(14)", 6, x.account(14));
        check.due("account(15)", 2, x.account(15));
    }

    // Promise 41: "BAD if there is no such what"
    // Broken in CopperStreet.account: default: return BAD => default: return NONE
    // Broken in CopperStreet.account: case 15: => case 16: case -1: case 15:
    static void thereIsNoOtherAccount(Check check) {
        CopperStreet x = new CopperStreet();
        for (int what : new int[] {-1, 16, Integer.MIN_VALUE, Integer.MAX_VALUE}) {
            check.due("account(" + what + ")", BAD, x.account(what));
        }
    }
}

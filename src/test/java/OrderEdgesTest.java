/** Promises 10, 11, 29 to 32 and 40, sentence by sentence: orders, sales, and the pots that are good for orders. */
public final class OrderEdgesTest {
    private static final int NONE = CopperStreet.NONE;
    private static final int BAD = CopperStreet.BAD;
    private static final int REFUSED = CopperStreet.REFUSED;
    private static final int NOTHING = CopperStreet.NOTHING;

    public static void main(String[] args) throws ReflectiveOperationException {
        Edges.run(OrderEdgesTest.class);
    }

    // Promise 10: "Lets a baker order."
    // Promise 10: "the kind of the pot"
    // Promise 10: "how much tin it must have"
    // Promise 10: "the pay"
    // Broken in Order.arrive: kind = newKind => kind = Kind.KETTLE
    // Broken in Order.arrive: tin = newTin => tin = newPay
    // Broken in Order.arrive: pay = newPay => pay = newTin
    static void anOrderHasItsNumbers(Check check) {
        CopperStreet x = new CopperStreet();
        x.baker(2, 5, 70);
        check.due("kind", 2, x.orderOf(0, 0));
        check.due("tin", 5, x.orderOf(0, 1));
        check.due("pay", 70, x.orderOf(0, 2));
    }

    // Promise 10: "Returns the number of the order"
    // Promise 10, Terms: "each order numbered from 0"
    // Broken in Smith.takeOrder: return number; => return number + 1;
    static void ordersAreNumberedFrom0(Check check) {
        CopperStreet x = new CopperStreet();
        check.due("first order", 0, x.baker(0, 1, 1));
        check.due("second order", 1, x.baker(0, 1, 1));
    }

    // Promise 10: "BAD if a number is out of range"
    // Promise 10, Terms: "a pot of a kind"
    // Broken in Smith.takeOrder: kind == null || => (kind == null && kindNumber > 0) ||
    // Broken in Kind.numbered: number < ALL.length => number <= ALL.length
    // Broken in Kind.numbered: number >= 0 && => true &&
    static void anOrderIsForAKind(Check check) {
        CopperStreet x = new CopperStreet();
        check.due("baker(-1, 1, 1)", BAD, x.baker(-1, 1, 1));
        check.due("baker(3, 1, 1)", BAD, x.baker(3, 1, 1));
        check.due("baker(MIN, 1, 1)", BAD, x.baker(Integer.MIN_VALUE, 1, 1));
        check.due("baker(MAX, 1, 1)", BAD, x.baker(Integer.MAX_VALUE, 1, 1));
        check.due("baker(0, 1, 1)", 0, x.baker(0, 1, 1));
        check.due("baker(2, 1, 1)", 1, x.baker(2, 1, 1));
    }

    // Promise 10: "BAD if a number is out of range"
    // Promise 10, Terms: "with at least so much tin, from 1 to 9"
    // Broken in Smith.takeOrder: tin < 1 => tin < 0
    // Broken in Smith.takeOrder: tin < 1 => tin < 2
    // Broken in Smith.takeOrder: tin > MOST_TIN => tin > MOST_TIN + 1
    // Broken in Smith.takeOrder: tin > MOST_TIN => tin >= MOST_TIN
    static void anOrderIsFor1To9OfTin(Check check) {
        CopperStreet x = new CopperStreet();
        check.due("baker(0, 0, 1)", BAD, x.baker(0, 0, 1));
        check.due("baker(0, 10, 1)", BAD, x.baker(0, 10, 1));
        check.due("baker(0, MIN, 1)", BAD, x.baker(0, Integer.MIN_VALUE, 1));
        check.due("baker(0, MAX, 1)", BAD, x.baker(0, Integer.MAX_VALUE, 1));
        check.due("baker(0, 1, 1)", 0, x.baker(0, 1, 1));
        check.due("baker(0, 9, 1)", 1, x.baker(0, 9, 1));
    }

    // Promise 10: "BAD if a number is out of range"
    // Promise 10, Terms: "for a pay from 1 to 99"
    // Broken in Smith.takeOrder: pay < 1 => pay < 0
    // Broken in Smith.takeOrder: pay < 1 => pay < 2
    // Broken in Smith.takeOrder: pay > MOST_PAY => pay > MOST_PAY + 1
    // Broken in Smith.takeOrder: pay > MOST_PAY => pay >= MOST_PAY
    static void anOrderIsForAPayFrom1To99(Check check) {
        CopperStreet x = new CopperStreet();
        check.due("baker(0, 1, 0)", BAD, x.baker(0, 1, 0));
        check.due("baker(0, 1, 100)", BAD, x.baker(0, 1, 100));
        check.due("baker(0, 1, MIN)", BAD, x.baker(0, 1, Integer.MIN_VALUE));
        check.due("baker(0, 1, MAX)", BAD, x.baker(0, 1, Integer.MAX_VALUE));
        check.due("baker(0, 1, 1)", 0, x.baker(0, 1, 1));
        check.due("baker(0, 1, 99)", 1, x.baker(0, 1, 99));
    }

    // Promise 10: "REFUSED for 1"
    // Promise 10, Terms: "At most 8 bakers order"
    // Broken in CopperStreet: MOST_ORDERS = 8 => MOST_ORDERS = 7
    // Broken in CopperStreet: MOST_ORDERS = 8 => MOST_ORDERS = 9
    static void eightBakersAtMost(Check check) {
        CopperStreet x = new CopperStreet();
        for (int order = 0; order < 8; order++) {
            check.due("order " + order, order, x.baker(0, 1, 1));
        }
        check.due("an order more", REFUSED, x.baker(0, 1, 1));
        check.reasonDue(x, 0, 1, 8);
        check.due("orders", 8, x.account(7));
    }

    // Promise 10, Terms: "If several codes apply, the one that is named first is returned."
    // Broken in Smith.takeOrder: return BAD; => return shop.orderCount >= MOST_ORDERS ? REFUSED : BAD;
    static void anOrderIsBadBeforeItIsRefused(Check check) {
        CopperStreet x = new CopperStreet();
        Streets.orderEight(x);
        check.due("baker(3, 1, 1)", BAD, x.baker(3, 1, 1));
        check.due("baker(0, 0, 1)", BAD, x.baker(0, 0, 1));
        check.due("baker(0, 1, 100)", BAD, x.baker(0, 1, 100));
    }

    // Promise 10, Terms: "A call that returns a code leaves everything as it was"
    // Broken in Smith.takeOrder: return BAD; => shop.orderCount++; return BAD;
    // Broken in Smith.takeOrder: return reasons.refuse( => shop.orders[7].pay = 1; return reasons.refuse(
    static void anOrderThatIsNotTakenLeavesAll(Check check) {
        CopperStreet x = new CopperStreet();
        x.baker(0, 1, 100);
        check.due("orders after BAD", 0, x.account(7));
        check.due("changes after BAD", 0, x.account(15));
        Streets.orderEight(x);
        x.baker(0, 5, 50);
        check.due("orders after REFUSED", 8, x.account(7));
        check.due("pay of the last order", 10, x.orderOf(7, 2));
        check.due("coins", 30, x.account(0));
    }

    // Promise 11: "Sells a pot for an order."
    // Promise 11: "Returns the coins then"
    // Broken in Smith.handOver: return shop.coins; => return order.paid;
    // Broken in Smith.handOver: order.pot = potNumber; => ;
    // Broken in Smith.handOver: pot.order = orderNumber; => ;
    // Broken in Smith.handOver: shop.coins += order.paid; => ;
    static void sellReturnsTheCoins(Check check) {
        CopperStreet x = Streets.withGoodPans(2);
        x.baker(0, 1, 20);
        x.baker(1, 1, 30);
        check.due("sell(1, 1)", 29 + 30, x.sell(1, 1));
        check.due("order of the pot", 1, x.potOf(1, 8));
        check.due("pot of the order", 1, x.orderOf(1, 3));
        check.due("coins", 59, x.account(0));
    }

    // Promise 11: "NONE if there is no such pot or order"
    // Broken in Shop.potAt: number < potCount => number <= potCount
    // Broken in Shop.potAt: number >= 0 && => true &&
    // Broken in Smith.handOver: return NONE; => return BAD;
    static void noPotIsSold(Check check) {
        CopperStreet x = Streets.withGoodPans(3);
        x.baker(1, 1, 20);
        check.due("sell(-1, 0)", NONE, x.sell(-1, 0));
        check.due("sell(3, 0)", NONE, x.sell(3, 0));
        check.due("sell(MIN, 0)", NONE, x.sell(Integer.MIN_VALUE, 0));
        check.due("sell(MAX, 0)", NONE, x.sell(Integer.MAX_VALUE, 0));
        check.due("sell(2, 0)", 49, x.sell(2, 0));
    }

    // Promise 11: "NONE if there is no such pot or order"
    // Broken in Shop.orderAt: number < orderCount => number <= orderCount
    // Broken in Shop.orderAt: number >= 0 && => true &&
    // Broken in Smith.handOver: return NONE; => return BAD;
    static void forNoOrderIsSold(Check check) {
        CopperStreet x = Streets.withGoodPans(1);
        check.due("sell(0, 0) without orders", NONE, x.sell(0, 0));
        x.baker(1, 1, 20);
        check.due("sell(0, -1)", NONE, x.sell(0, -1));
        check.due("sell(0, 1)", NONE, x.sell(0, 1));
        check.due("sell(0, MIN)", NONE, x.sell(0, Integer.MIN_VALUE));
        check.due("sell(0, MAX)", NONE, x.sell(0, Integer.MAX_VALUE));
        check.due("sell(0, 0)", 49, x.sell(0, 0));
    }

    // Promise 11, Terms: "If several codes apply, the one that is named first is returned."
    // Broken in Smith.handOver: return NONE; => return order != null && order.isFilled() ? REFUSED : NONE;
    // Broken in Smith.handOver: return NONE; => return pot != null && pot.isSold() ? REFUSED : NONE;
    static void sellTellsNoneBeforeRefused(Check check) {
        CopperStreet x = Streets.withSoldPan();
        check.due("sell(3, 0), where order 0 is filled", NONE, x.sell(3, 0));
        check.due("sell(2, 1), where pot 2 is sold", NONE, x.sell(2, 1));
    }

    // Promise 11: "REFUSED for 10, 4 or 11"
    // Promise 11, Terms: "10, the order is filled: its pot"
    // Broken in Smith.handOver: if (order.isFilled()) => if (order.pot > 2)
    static void aFilledOrderGetsNoOtherPot(Check check) {
        CopperStreet x = Streets.withSoldPan();
        check.due("sell(0, 0)", REFUSED, x.sell(0, 0));
        check.reasonDue(x, 0, 10, 2);
        check.due("pot of the order", 2, x.orderOf(0, 3));
        check.due("order of the pot", NOTHING, x.potOf(0, 8));
    }

    // Promise 11: "REFUSED for 10, 4 or 11"
    // Promise 11, Terms: "4, the pot is sold: its order"
    // Broken in Smith.handOver: if (pot.isSold()) => if (pot.order > 0)
    // Broken in Smith.handOver: reasons.refuse(POT_SOLD, pot.order) => reasons.refuse(POT_SOLD, potNumber)
    static void aSoldPotIsNotSoldAgain(Check check) {
        CopperStreet x = Streets.withSoldPan();
        x.baker(1, 1, 80);
        check.due("sell(2, 1)", REFUSED, x.sell(2, 1));
        check.reasonDue(x, 0, 4, 0);
        check.due("order of the pot", 0, x.potOf(2, 8));
    }

    // Promise 11: "REFUSED for 10, 4 or 11"
    // Promise 11, Terms: "in the order in which it names them"
    // Broken in Smith.handOver: if (order.isFilled()) => if (order.isFilled() && !pot.isSold())
    static void aFilledOrderComesBeforeASoldPot(Check check) {
        CopperStreet x = Streets.withSoldPan();
        check.due("sell(2, 0)", REFUSED, x.sell(2, 0));
        check.reasonDue(x, 0, 10, 2);
    }

    // Promise 11: "REFUSED for 10, 4 or 11"
    // Promise 11, Terms: "in the order in which it names them"
    // Broken in Smith.handOver: if (order.isFilled()) => if (order.isFilled() && pot.lackFor(order) == 0)
    static void aFilledOrderComesBeforeAPotThatIsNotGood(Check check) {
        CopperStreet x = Streets.withSoldPan();
        x.planish(0, 6);
        check.due("sell(0, 0), cracked", REFUSED, x.sell(0, 0));
        check.reasonDue(x, 0, 10, 2);
        check.due("reason(1, false)", NOTHING, x.reason(1, false));
    }

    // Promise 11: "REFUSED for 10, 4 or 11"
    // Promise 11, Terms: "in the order in which it names them"
    // Broken in Smith.handOver: if (pot.isSold()) => if (pot.isSold() && pot.lackFor(order) == 0)
    static void aSoldPotComesBeforeOneThatIsNotGood(Check check) {
        CopperStreet x = Streets.withSoldPan();
        x.baker(0, 9, 80);
        check.due("sell(2, 1) of another kind", REFUSED, x.sell(2, 1));
        check.reasonDue(x, 0, 4, 0);
        check.due("reason(1, false)", NOTHING, x.reason(1, false));
    }

    // Promise 11, Terms: "A call that returns a code leaves everything as it was"
    // Broken in Smith.handOver: return reasons.wrap( => order.pot = potNumber; return reasons.wrap(
    // Broken in Smith.handOver: return reasons.wrap( => pot.order = orderNumber; return reasons.wrap(
    // Broken in Smith.handOver: return reasons.wrap( => shop.coins += order.pay; return reasons.wrap(
    // Broken in Smith.handOver: return reasons.refuse(ORDER_FILLED, => order.paid = 0; return reasons.refuse(ORDER_FILLED,
    // Broken in Smith.handOver: return reasons.refuse(POT_SOLD, => pot.order = orderNumber; return reasons.refuse(POT_SOLD,
    static void aSaleThatIsNotMadeLeavesAll(Check check) {
        CopperStreet x = Streets.withSoldPan();
        x.baker(1, 4, 80);
        int changes = x.account(15);
        x.sell(0, 1);
        x.sell(0, 0);
        x.sell(2, 1);
        x.sell(3, 1);
        check.due("pot of order 0", 2, x.orderOf(0, 3));
        check.due("what was paid for order 0", 9, x.orderOf(0, 4));
        check.due("pot of order 1", NOTHING, x.orderOf(1, 3));
        check.due("what was paid for order 1", 0, x.orderOf(1, 4));
        check.due("order of pot 0", NOTHING, x.potOf(0, 8));
        check.due("order of pot 2", 0, x.potOf(2, 8));
        check.due("coins", 38, x.account(0));
        check.due("changes", changes, x.account(15));
    }

    // Promise 11, Terms: "A new pot is sold for the pay, another one for half of it."
    // Broken in Order.payFor: isNew() ? pay : pay / 2 => isNew() ? pay / 2 : pay / 2
    // Broken in Order.payFor: isNew() ? pay : pay / 2 => isNew() ? pay : pay
    // Broken in Smith.handOver: order.paid = order.payFor(pot) => order.paid = order.pay
    static void aUsedPotIsSoldForHalf(Check check) {
        CopperStreet x = Streets.withGoodPans(2);
        x.baker(1, 1, 40);
        x.baker(1, 1, 40);
        check.due("sell(0, 0), new", 29 + 40, x.sell(0, 0));
        x.cook(1, 1);
        check.due("sell(1, 1), used", 69 + 20, x.sell(1, 1));
    }

    // Promise 11, Terms: "divisions are rounded down"
    // Broken in Order.payFor: pay / 2 => (pay + 1) / 2
    static void halfAnOddPayIsRoundedDown(Check check) {
        CopperStreet x = Streets.withGoodPans(2);
        x.cook(0, 1);
        x.cook(1, 1);
        x.baker(1, 1, 99);
        x.baker(1, 1, 1);
        check.due("half of 99", 29 + 49, x.sell(0, 0));
        check.due("half of 1", 78, x.sell(1, 1));
        check.due("what was paid", 0, x.orderOf(1, 4));
        check.due("the order is filled", 1, x.orderOf(1, 3));
    }

    // Promise 11, Terms: "A pot is new if nothing was cooked in it so far."
    // Broken in Pot.isNew: meals == 0 => meals <= 1
    static void aPotOfOneMealIsNotNew(Check check) {
        CopperStreet x = Streets.withGoodPans(1);
        x.cook(0, 1);
        x.baker(1, 3, 40);
        check.due("tin is not worn", 3, x.potOf(0, 4));
        check.due("sell(0, 0)", 29 + 20, x.sell(0, 0));
    }

    // Promise 11, Terms: "A pot that is tinned thin is never sold as new."
    // Promise 11, Terms: "if it is new, 3 of tin at least"
    // Broken in CopperStreet: TIN_WHEN_NEW = 3 => TIN_WHEN_NEW = 2
    // Broken in CopperStreet: TIN_WHEN_NEW = 3 => TIN_WHEN_NEW = 4
    // Broken in Order.tinFor: Math.max(tin, TIN_WHEN_NEW) : tin => tin : tin
    static void aNewPotHas3OfTinAtLeast(Check check) {
        CopperStreet x = Streets.withSmoothPots(2);
        x.baker(1, 1, 40);
        x.tin(1, 2);
        check.due("sell(1, 0) with 2 of tin", REFUSED, x.sell(1, 0));
        x.tin(1, 1);
        check.due("sell(1, 0) with 3 of tin", 28 + 40, x.sell(1, 0));
    }

    // Promise 11, Terms: "if it is new, 3 of tin at least"
    // Broken in Order.tinFor: Math.max(tin, TIN_WHEN_NEW) : tin => Math.max(tin, TIN_WHEN_NEW) : Math.max(tin, TIN_WHEN_NEW)
    static void aUsedPotMayBeTinnedThin(Check check) {
        CopperStreet x = Streets.withSmoothPots(2);
        x.baker(1, 1, 40);
        x.tin(1, 2);
        x.cook(1, 2);
        check.due("sell(1, 0) with 1 of tin", 28 + 20, x.sell(1, 0));
    }

    // Promise 11, Terms: "and has so much tin"
    // Broken in Pot.lackFor: tin < wish.tinFor(this) => tin <= wish.tinFor(this)
    // Broken in Pot.lackFor: tin < wish.tinFor(this) => tin + 1 < wish.tinFor(this)
    static void aGoodPotHasSoMuchTin(Check check) {
        CopperStreet x = Streets.withSmoothPots(2);
        x.baker(1, 5, 40);
        x.tin(1, 4);
        check.due("sell(1, 0) with 4 of tin for 5", REFUSED, x.sell(1, 0));
        x.tin(1, 1);
        check.due("sell(1, 0) with 5 of tin for 5", 28 + 40, x.sell(1, 0));
    }

    // Promise 11, Terms: "A pot is good for an order if it is of this kind"
    // Broken in Pot.lackFor: if (kind != wish.kind) => if (kind.number < wish.kind.number)
    // Broken in Pot.lackFor: if (kind != wish.kind) => if (kind.number > wish.kind.number)
    static void aGoodPotIsOfTheKind(Check check) {
        CopperStreet x = Streets.withSmoothPots(2);
        x.tin(1, 3);
        for (int kind = 0; kind < 3; kind++) {
            x.baker(kind, 1, 40);
        }
        check.due("sell(1, 0), a pan for a kettle", REFUSED, x.sell(1, 0));
        check.due("sell(1, 2), a pan for a cauldron", REFUSED, x.sell(1, 2));
        check.due("sell(1, 1), a pan for a pan", 28 + 40, x.sell(1, 1));
    }

    // Promise 11, Terms: "not cracked"
    // Broken in Pot.lackFor: if (isCracked()) => if (isCracked() && meals > 0)
    // Broken in Pot.lackFor: if (isCracked()) => if (thickness() <= 1)
    static void aGoodPotIsNotCracked(Check check) {
        CopperStreet x = Streets.withSmoothPots(1);
        x.tin(1, 3);
        x.baker(1, 3, 40);
        x.planish(1, 5);
        check.due("sell(1, 0), just not cracked", 29 + 40, x.sell(1, 0));
        x.undo();
        x.planish(1, 1);
        check.due("sell(1, 0), cracked", REFUSED, x.sell(1, 0));
    }

    // A pot that is not smooth has no tin, so that only the reason tells that it was looked at.
    // Promise 11, Terms: "not cracked, smooth"
    // Broken in Pot.lackFor: if (!isSmooth()) => if (blows + 1 < kind.smoothBlows)
    // Broken in Pot.lackFor: if (!isSmooth()) => if (blows <= kind.smoothBlows)
    static void aGoodPotIsSmooth(Check check) {
        CopperStreet x = Check.streetWithPots(2);
        x.baker(1, 3, 40);
        x.planish(1, 15);
        check.due("sell(1, 0) with one blow missing", REFUSED, x.sell(1, 0));
        check.reasonDue(x, 1, 6, 1);
        x.planish(1, 1);
        x.tin(1, 3);
        check.due("sell(1, 0), just smooth", 28 + 40, x.sell(1, 0));
    }

    // Promise 29: "Returns why a pot is not good for an order."
    // Promise 29: "Returns 0 if it is good"
    // Broken in Pot.lackFor: TOO_LITTLE_TIN : 0 => TOO_LITTLE_TIN : POT_SOLD
    // Broken in Pot.lackFor: tin < wish.tinFor(this) => tin <= wish.tinFor(this)
    static void fitsIs0ForAGoodPot(Check check) {
        CopperStreet x = Streets.withGoodPans(1);
        x.baker(1, 3, 10);
        check.due("fits(0, 0)", 0, x.fits(0, 0));
    }

    // Promise 29: "or the reason that would stand behind 11"
    // Promise 29, Terms: "Behind 11 stands the first of 12, 5, 6 and 13 that applies."
    // Broken in CopperStreet: POT_OF_OTHER_KIND = 12 => POT_OF_OTHER_KIND = 15
    // Broken in CopperStreet: POT_CRACKED = 5 => POT_CRACKED = 15
    // Broken in CopperStreet: POT_NOT_SMOOTH = 6 => POT_NOT_SMOOTH = 15
    // Broken in CopperStreet: TOO_LITTLE_TIN = 13 => TOO_LITTLE_TIN = 15
    // Broken in Pot.lackFor: if (kind != wish.kind) => if (kind != wish.kind && isSmooth())
    // Broken in Pot.lackFor: if (kind != wish.kind) => if (kind != wish.kind && !isCracked())
    // Broken in Pot.lackFor: if (isCracked()) => if (isCracked() && tin > 0)
    // Broken in Pot.lackFor: if (!isSmooth()) => if (!isSmooth() && tin > 0)
    static void fitsTellsTheFirstReason(Check check) {
        CopperStreet x = Check.streetWithPots(1);
        x.baker(1, 1, 10);
        check.due("fits(0, 0), another kind, not smooth", 12, x.fits(0, 0));
        x.planish(2, 46);
        check.due("fits(2, 0), another kind, cracked", 12, x.fits(2, 0));
        check.due("fits(1, 0), not smooth, without tin", 6, x.fits(1, 0));
        x.planish(1, 16);
        check.due("fits(1, 0), without tin", 13, x.fits(1, 0));
        x.planish(1, 6);
        check.due("fits(1, 0), cracked, without tin", 5, x.fits(1, 0));
    }

    // Promise 29: "NONE if there is no such pot or order"
    // Broken in Shop.potAt: number < potCount => number <= potCount
    // Broken in Shop.potAt: number >= 0 && => true &&
    // Broken in CopperStreet.fits: ? NONE => ? BAD
    static void noPotFits(Check check) {
        CopperStreet x = Streets.withGoodPans(2);
        x.baker(1, 1, 10);
        check.due("fits(-1, 0)", NONE, x.fits(-1, 0));
        check.due("fits(2, 0)", NONE, x.fits(2, 0));
        check.due("fits(MIN, 0)", NONE, x.fits(Integer.MIN_VALUE, 0));
        check.due("fits(MAX, 0)", NONE, x.fits(Integer.MAX_VALUE, 0));
        check.due("fits(1, 0)", 0, x.fits(1, 0));
    }

    // Promise 29: "NONE if there is no such pot or order"
    // Broken in Shop.orderAt: number < orderCount => number <= orderCount
    // Broken in Shop.orderAt: number >= 0 && => true &&
    // Broken in CopperStreet.fits: ? NONE => ? BAD
    static void noOrderIsFitted(Check check) {
        CopperStreet x = Streets.withGoodPans(1);
        check.due("fits(0, 0) without orders", NONE, x.fits(0, 0));
        x.baker(1, 1, 10);
        check.due("fits(0, -1)", NONE, x.fits(0, -1));
        check.due("fits(0, 1)", NONE, x.fits(0, 1));
        check.due("fits(0, MIN)", NONE, x.fits(0, Integer.MIN_VALUE));
        check.due("fits(0, MAX)", NONE, x.fits(0, Integer.MAX_VALUE));
        check.due("fits(0, 0)", 0, x.fits(0, 0));
    }

    // Promise 30: "Returns the lowest pot in the shop that is good for an order."
    // Promise 30: "Returns the pot"
    // Broken in Shop.lowestGood: int i = 0; => int i = 1;
    // Broken in Shop.lowestGood: int i = 0; i < potCount; i++ => int i = potCount - 1; i >= 0; i--
    static void goodForIsTheLowestGoodPot(Check check) {
        CopperStreet x = Streets.withGoodPans(3);
        x.baker(1, 3, 10);
        check.due("goodFor(0)", 0, x.goodFor(0));
        x.planish(0, 6);
        check.due("goodFor(0), pot 0 cracked", 1, x.goodFor(0));
    }

    // Promise 30: "in the shop"
    // Promise 30, Terms: "A pot in the shop is one that is not sold."
    // Broken in Shop.isGood: !pot.isSold() && => true &&
    static void aSoldPotIsGoodForNone(Check check) {
        CopperStreet x = Streets.withGoodPans(2);
        x.baker(1, 1, 10);
        x.baker(1, 1, 10);
        x.sell(0, 0);
        check.due("goodFor(1)", 1, x.goodFor(1));
        x.sell(1, 1);
        check.due("goodFor(1)", NOTHING, x.goodFor(1));
    }

    // Promise 30: "NONE if there is no such order"
    // Broken in Shop.orderAt: number < orderCount => number <= orderCount
    // Broken in Shop.orderAt: number >= 0 && => true &&
    // Broken in CopperStreet.goodFor: ? NONE => ? NOTHING
    static void noPotIsGoodForNoOrder(Check check) {
        CopperStreet x = Streets.withGoodPans(1);
        check.due("goodFor(0) without orders", NONE, x.goodFor(0));
        x.baker(1, 1, 10);
        check.due("goodFor(-1)", NONE, x.goodFor(-1));
        check.due("goodFor(1)", NONE, x.goodFor(1));
        check.due("goodFor(MIN)", NONE, x.goodFor(Integer.MIN_VALUE));
        check.due("goodFor(MAX)", NONE, x.goodFor(Integer.MAX_VALUE));
        check.due("goodFor(0)", 0, x.goodFor(0));
    }

    // Promise 30: "NOTHING if there is none"
    // Broken in Shop.lowestGood: return NOTHING; => return NONE;
    static void goodForIsNothingWithoutAGoodPot(Check check) {
        CopperStreet x = new CopperStreet();
        x.baker(1, 1, 10);
        check.due("goodFor(0) without pots", NOTHING, x.goodFor(0));
        x.sheet(2, 60);
        x.raise(0, 1);
        check.due("goodFor(0) with a bare pot", NOTHING, x.goodFor(0));
    }

    // Promise 30: "NOTHING if there is none"
    // Promise 30, Terms: "At most 16 pots are raised in all"
    // Broken in Shop.lowestGood: i < potCount => i <= potCount
    // Broken in Shop.lowestGood: i < potCount => i < Math.min(potCount, 15)
    static void goodForLooksAtAllPotsOfAFullStreet(Check check) {
        CopperStreet x = Streets.withPans(16);
        x.baker(1, 1, 10);
        check.due("goodFor(0) with 16 bare pots", NOTHING, x.goodFor(0));
        Streets.makeGood(x, 15);
        check.due("goodFor(0) with the last one good", 15, x.goodFor(0));
    }

    // Promise 30: "Returns the lowest pot in the shop"
    // Broken in Shop.lowestGood: i < potCount => i <= potCount
    // Broken in Shop.allGood: i < potCount => i <= potCount
    static void potsOfAStreetThatIsClearedAreGoodForNone(Check check) {
        CopperStreet x = Streets.withGoodPans(2);
        x.clear();
        x.baker(1, 1, 10);
        check.due("goodFor(0)", NOTHING, x.goodFor(0));
        check.due("filled()", 0, x.filled());
        check.due("worth()", 0, x.worth());
    }

    // Promise 31: "Returns how many orders that are not filled could be filled"
    // Broken in Shop.listGoodPots: if (!orders[i].isFilled()) => if (true)
    static void filledOrdersAreNotFilledAgain(Check check) {
        CopperStreet x = Streets.withSoldPan();
        check.due("filled() with one order, filled", 0, x.filled());
        x.baker(1, 1, 10);
        check.due("filled() with one order more", 1, x.filled());
    }

    // Promise 31: "each with another pot"
    // Broken in Shop.mostFilled: outside + Integer.bitCount(potsGoodFor(set, open)) => outside + 8 * Integer.bitCount(potsGoodFor(set, open))
    static void eachOrderIsFilledWithAnotherPot(Check check) {
        CopperStreet x = Streets.withGoodPans(2);
        x.baker(1, 1, 10);
        x.baker(1, 1, 10);
        x.baker(1, 1, 10);
        check.due("filled() with two pots for three orders", 2, x.filled());
    }

    // Promise 31: "in the shop that is good for it now"
    // Broken in Shop.isGood: !pot.isSold() && => true &&
    // Broken in Shop.isGood: pot.lackFor(wish) == 0 => pot.kind == wish.kind
    static void filledAsksForPotsThatAreGoodNow(Check check) {
        CopperStreet x = Streets.withSoldPan();
        x.baker(1, 3, 10);
        x.baker(1, 3, 10);
        x.baker(1, 3, 10);
        check.due("filled() with one of three pots sold", 2, x.filled());
        x.planish(1, 6);
        check.due("filled() with one of them cracked", 1, x.filled());
        x.cook(0, 2);
        check.due("filled() with the tin of the last one worn", 0, x.filled());
    }

    // Order 0 is good with both pots, order 1 with pot 0 alone, which order 0 would take at first.
    // Promise 31: "could be filled at most"
    // Broken in Shop.mostFilled: outside + Integer.bitCount(potsGoodFor(set, open)) => Integer.bitCount(potsGoodFor(set, open))
    // Broken in Shop.mostFilled: set < 1 << open => set < open
    static void filledIsTheMostThatCanBe(Check check) {
        CopperStreet x = Streets.withGoodPans(2);
        x.tin(0, 1);
        x.baker(1, 3, 10);
        x.baker(1, 4, 10);
        check.due("filled()", 2, x.filled());
        check.due("the pay in turn of one alone", 10, x.worth());
        x.baker(1, 4, 10);
        x.baker(1, 4, 10);
        x.baker(1, 4, 10);
        check.due("filled() of five orders", 2, x.filled());
    }

    // Promise 31: "Returns how many"
    // Broken in Shop.mostFilled: int most = open; => int most = Math.max(open, 1);
    static void filledIs0WithoutOrdersOrPots(Check check) {
        check.due("filled() in a new street", 0, new CopperStreet().filled());
        CopperStreet x = Streets.withGoodPans(1);
        check.due("filled() without orders", 0, x.filled());
        CopperStreet y = new CopperStreet();
        y.baker(1, 1, 10);
        check.due("filled() without pots", 0, y.filled());
    }

    // Promise 31, Terms: "At most 8 bakers order"
    // Broken in Shop.mostFilled: set < 1 << open => set < 1 << Math.min(open, 7)
    static void filledOfEightOrders(Check check) {
        CopperStreet x = Streets.withGoodPans(7);
        Streets.orderEight(x);
        check.due("filled() with seven pots for eight orders", 7, x.filled());
    }

    // Promise 31, Terms: "At most 16 pots are raised in all"
    // Broken in Shop.allGood: i < potCount => i <= potCount
    // Broken in Shop.allGood: i < potCount => i < Math.min(potCount, 15)
    static void filledLooksAtAllPotsOfAFullStreet(Check check) {
        CopperStreet x = Streets.withPans(16);
        Streets.orderEight(x);
        check.due("filled() with 16 bare pots", 0, x.filled());
        Streets.makeGood(x, 15);
        check.due("filled() with the last one good", 1, x.filled());
        Streets.makeGood(x, 0);
        check.due("filled() with the first one good, too", 2, x.filled());
    }

    // Promise 32: "if each order that is not filled got the lowest pot in the shop that is good for it"
    // Broken in Shop.lowestGood: int i = 0; i < potCount; i++ => int i = potCount - 1; i >= 0; i--
    static void worthGivesTheLowestPot(Check check) {
        CopperStreet x = Streets.withGoodPans(2);
        x.cook(0, 1);
        x.baker(1, 1, 50);
        check.due("worth() with the used pot", 25, x.worth());
        x.planish(0, 6);
        check.due("worth() with the new pot", 50, x.worth());
    }

    // Promise 32: "each order that is not filled"
    // Broken in Shop.payInTurn: orders[i].isFilled() ? NOTHING : lowestGood(orders[i], given) => lowestGood(orders[i], given)
    static void worthAsksForOrdersThatAreNotFilled(Check check) {
        CopperStreet x = Streets.withSoldPan();
        check.due("worth() with one order, filled", 0, x.worth());
        x.baker(1, 1, 10);
        check.due("worth() with one order more", 10, x.worth());
    }

    // Promise 32, Terms: "At most 8 bakers order"
    // Broken in Shop.payInTurn: i < orderCount => i <= orderCount
    // Broken in Shop.payInTurn: i < orderCount => i < Math.min(orderCount, 7)
    static void worthOfEightOrders(Check check) {
        CopperStreet x = Streets.withPans(8);
        for (int order = 0; order < 8; order++) {
            Streets.makeGood(x, order);
            x.baker(1, 1, 10 + order);
        }
        check.due("tin of the last pot, for want of coins", 0, x.potOf(7, 4));
        check.due("worth() with seven pots for eight orders", 91, x.worth());
        x.tin(7, 1);
        x.cook(7, 1);
        check.due("worth() with eight pots, the last one used", 91 + 8, x.worth());
    }

    // Promise 32: "and that no order ahead of it got, by numbers"
    // Broken in Shop.payInTurn: given |= 1 << pot; => ;
    // Broken in Shop.payInTurn: int i = 0; i < orderCount; i++ => int i = orderCount - 1; i >= 0; i--
    static void worthGivesAPotOnce(Check check) {
        CopperStreet x = Streets.withGoodPans(2);
        x.baker(1, 1, 10);
        x.baker(1, 1, 20);
        x.baker(1, 1, 40);
        check.due("worth() with two pots for three orders", 30, x.worth());
    }

    // Promise 32: "the lowest pot in the shop"
    // Promise 32, Terms: "A pot in the shop is one that is not sold."
    // Broken in Shop.isGood: !pot.isSold() && => true &&
    static void worthAsksForPotsInTheShop(Check check) {
        CopperStreet x = Streets.withGoodPans(1);
        x.baker(1, 1, 10);
        x.baker(1, 1, 20);
        x.sell(0, 0);
        check.due("worth() with all pots sold", 0, x.worth());
    }

    // Promise 32: "Returns what these could be paid at most"
    // Promise 32, Terms: "another one for half of it"
    // Broken in Shop.payInTurn: pay += orders[i].payFor(pots[pot]) => pay += orders[i].pay
    // Broken in Order.payFor: pay / 2 => (pay + 1) / 2
    static void worthIsHalfForUsedPots(Check check) {
        CopperStreet x = Streets.withGoodPans(2);
        x.cook(0, 1);
        x.cook(1, 1);
        x.baker(1, 1, 11);
        x.baker(1, 1, 13);
        check.due("worth(), each half rounded down", 5 + 6, x.worth());
    }

    // Promise 32: "Returns the pay"
    // Broken in Shop.payInTurn: if (pot >= 0) => if (pot >= NOTHING)
    static void worthIs0WithoutOrdersOrPots(Check check) {
        check.due("worth() in a new street", 0, new CopperStreet().worth());
        check.due("worth() without orders", 0, Streets.withGoodPans(1).worth());
        CopperStreet x = new CopperStreet();
        x.baker(1, 1, 10);
        check.due("worth() without pots", 0, x.worth());
    }

    // Promise 40: "Returns the share of the pots that are sold, both numbers converted to double."
    // Broken in CopperStreet.soldShare: (double) shop.soldPots() / (double) shop.potCount => (double) (shop.soldPots() / shop.potCount)
    // Broken in CopperStreet.soldShare: (double) shop.soldPots() / (double) shop.potCount => (float) shop.soldPots() / (float) shop.potCount
    static void soldShareIsADouble(Check check) {
        CopperStreet x = Streets.withSoldPan();
        check.due("soldShare() of one of three", 1.0 / 3.0, x.soldShare());
        x.baker(1, 1, 1);
        x.baker(1, 1, 1);
        x.sell(0, 1);
        check.due("soldShare() of two of three", 2.0 / 3.0, x.soldShare());
        x.sell(1, 2);
        check.due("soldShare() of all", 1.0, x.soldShare());
    }

    // Promise 40: "Returns the share"
    // Broken in Shop.soldPots: isFilled() ? 1 : 0 => isFilled() ? 1 : 1
    static void soldShareIs0WhereNoneIsSold(Check check) {
        CopperStreet x = Streets.withGoodPans(2);
        x.baker(1, 1, 10);
        check.due("soldShare()", 0.0, x.soldShare());
    }

    // Promise 40: "0.0 without pots"
    // Broken in CopperStreet.soldShare: shop.potCount == 0 ? 0.0 : => shop.potCount == 0 ? 1.0 :
    // Broken in CopperStreet.soldShare: shop.potCount == 0 ? 0.0 : =>
    static void soldShareIs0WithoutPots(Check check) {
        check.due("soldShare() in a new street", 0.0, new CopperStreet().soldShare());
        CopperStreet x = Streets.withSoldPan();
        x.clear();
        check.due("soldShare() of a cleared street", 0.0, x.soldShare());
    }
}

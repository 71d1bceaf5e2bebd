/** Promises 6 to 9, sentence by sentence: planishing, bars of tin, tinning, and cooking. */
public final class WorkEdgesTest {
    private static final int NONE = CopperStreet.NONE;
    private static final int BAD = CopperStreet.BAD;
    private static final int REFUSED = CopperStreet.REFUSED;
    /** In a street with three pots. */
    private static final int[] NO_POTS = {-1, 3, Integer.MIN_VALUE, Integer.MAX_VALUE};
    private static final int[] SMOOTH = {24, 16, 40};

    public static void main(String[] args) throws ReflectiveOperationException {
        Edges.run(WorkEdgesTest.class);
    }

    // Promise 6: "Planishes a pot."
    // Promise 6: "how many blows"
    // Broken in Smith.hit: pot.blows += blows => pot.blows = blows
    // Broken in Smith.hit: pot.blows += blows; => ;
    static void blowsAddUp(Check check) {
        CopperStreet x = Check.streetWithPots(3);
        x.planish(1, 7);
        x.planish(1, 5);
        check.due("blows", 12, x.potOf(1, 3));
        check.due("blows of another pot", 0, x.potOf(0, 3));
    }

    // Promise 6: "how many blows, from 1 to 99"
    // Promise 6: "BAD if the number is out of range"
    // Broken in Smith.hit: blows < 1 => blows < 0
    // Broken in Smith.hit: blows < 1 => blows < 2
    static void theFewestBlowsAre1(Check check) {
        CopperStreet x = Check.streetWithPots(3);
        check.due("planish(0, 0)", BAD, x.planish(0, 0));
        check.due("planish(0, -1)", BAD, x.planish(0, -1));
        check.due("planish(0, MIN)", BAD, x.planish(0, Integer.MIN_VALUE));
        check.due("planish(0, 1)", 3, x.planish(0, 1));
    }

    // Promise 6: "how many blows, from 1 to 99"
    // Promise 6: "BAD if the number is out of range"
    // Broken in Smith.hit: blows > MOST_BLOWS => blows > MOST_BLOWS + 1
    // Broken in Smith.hit: blows > MOST_BLOWS => blows >= MOST_BLOWS
    static void theMostBlowsAre99(Check check) {
        CopperStreet x = Check.streetWithPots(9);
        check.due("planish(2, 100)", BAD, x.planish(2, 100));
        check.due("planish(2, MAX)", BAD, x.planish(2, Integer.MAX_VALUE));
        check.due("blows", 0, x.potOf(2, 3));
        check.due("planish(2, 99)", 0, x.planish(2, 99));
        check.due("blows", 99, x.potOf(2, 3));
    }

    // Promise 6: "Returns its thickness then"
    // Broken in Smith.hit: return pot.thickness(); => return pot.gauge;
    // Broken in Smith.hit: return pot.thickness(); => return pot.thicknessWith(pot.blows - blows);
    static void planishReturnsTheThickness(Check check) {
        CopperStreet x = Check.streetWithPots(3);
        check.due("planish(0, 36)", 1, x.planish(0, 36));
    }

    // Promise 6: "NONE if there is no such pot"
    // Broken in Shop.potAt: number < potCount => number <= potCount
    // Broken in Shop.potAt: number >= 0 && => true &&
    // Broken in Smith.hit: return NONE; => return BAD;
    static void noPotIsPlanished(Check check) {
        CopperStreet x = Check.streetWithPots(3);
        for (int pot : NO_POTS) {
            check.due("planish(" + pot + ", 1)", NONE, x.planish(pot, 1));
        }
        check.due("planish(2, 1)", 3, x.planish(2, 1));
        check.due("planish(0, 1) in a new street", NONE, new CopperStreet().planish(0, 1));
    }

    // Promise 6: "REFUSED for 4 or 5"
    // Promise 6, Terms: "4, the pot is sold"
    // Broken in Smith.isWorkable: if (pot.isSold()) => if (pot.isSold() && false)
    static void aSoldPotIsNotPlanished(Check check) {
        CopperStreet x = Streets.withSoldPan();
        check.due("planish(2, 1)", REFUSED, x.planish(2, 1));
        check.reasonDue(x, 0, 4, 0);
        check.due("blows", 16, x.potOf(2, 3));
    }

    // Promise 6: "REFUSED for 4 or 5"
    // Promise 6, Terms: "To planish a cracked pot is refused."
    // Broken in Smith.hit: if (!isWorkable(pot)) => if (pot.isSold())
    static void aCrackedPotIsNotPlanished(Check check) {
        CopperStreet x = Check.streetWithPots(1);
        check.due("planish(1, 21)", 1, x.planish(1, 21));
        check.due("planish(1, 1) cracks it", 0, x.planish(1, 1));
        check.due("planish(1, 1)", REFUSED, x.planish(1, 1));
        check.reasonDue(x, 0, 5, 1);
    }

    // Promise 6, Terms: "If several codes apply, the one that is named first is returned."
    // Broken in Smith.hit: return NONE; => return blows < 1 || blows > MOST_BLOWS ? BAD : NONE;
    // Broken in Smith.hit: return BAD; => return isWorkable(pot) ? BAD : REFUSED;
    static void planishTellsNoneThenBadThenRefused(Check check) {
        CopperStreet x = Streets.withSoldPan();
        check.due("planish(3, 0)", NONE, x.planish(3, 0));
        check.due("planish(-1, 100)", NONE, x.planish(-1, 100));
        check.due("planish(2, 0) of the sold pot", BAD, x.planish(2, 0));
        check.due("planish(2, 100) of the sold pot", BAD, x.planish(2, 100));
    }

    // Promise 6, Terms: "A call that returns a code leaves everything as it was"
    // Broken in Smith.hit: return BAD; => pot.blows++; return BAD;
    // Broken in Smith.hit: return REFUSED; => pot.blows++; return REFUSED;
    static void blowsThatAreNotMadeLeaveAll(Check check) {
        CopperStreet x = Check.streetWithPots(1);
        x.planish(1, 0);
        x.planish(1, 100);
        check.due("blows", 0, x.potOf(1, 3));
        x.planish(1, 22);
        x.planish(1, 5);
        check.due("blows of the cracked pot", 22, x.potOf(1, 3));
        check.due("blows so far", 22, x.account(9));
        check.due("changes", 5, x.account(15));
    }

    // Promise 6, Terms: "A pot is smooth with twice as many blows as its area, or more."
    // Broken in Kind: this.smoothBlows = 2 * area; => this.smoothBlows = 2 * area + 1;
    // Broken in Kind: this.smoothBlows = 2 * area; => this.smoothBlows = 2 * area - 1;
    // Broken in Pot.isSmooth: blows >= kind.smoothBlows => blows == kind.smoothBlows
    static void aPotIsSmoothWithTwiceItsArea(Check check) {
        CopperStreet x = Check.streetWithPots(3);
        for (int pot = 0; pot < 3; pot++) {
            x.planish(pot, SMOOTH[pot] - 1);
            check.due("smooth with one blow less, pot " + pot, 0, x.potOf(pot, 6));
            x.planish(pot, 1);
            check.due("smooth with just so many, pot " + pot, 1, x.potOf(pot, 6));
            x.planish(pot, 1);
            check.due("smooth with one more, pot " + pot, 1, x.potOf(pot, 6));
        }
    }

    // Promise 6, Terms: "Each 6 blows beyond these make it 1 thinner"
    // Promise 6, Terms: "less one for each whole 6 of such blows"
    // Broken in CopperStreet: BLOWS_TO_THIN = 6 => BLOWS_TO_THIN = 5
    // Broken in CopperStreet: BLOWS_TO_THIN = 6 => BLOWS_TO_THIN = 7
    static void sixBlowsBeyondMakeThinner(Check check) {
        CopperStreet x = Streets.withSmoothPots(3);
        for (int pot = 0; pot < 3; pot++) {
            check.due("5 blows beyond, pot " + pot, 3, x.planish(pot, 5));
            check.due("6 blows beyond, pot " + pot, 2, x.planish(pot, 1));
            check.due("11 blows beyond, pot " + pot, 2, x.planish(pot, 5));
            check.due("12 blows beyond, pot " + pot, 1, x.planish(pot, 1));
        }
    }

    // Promise 6, Terms: "its thickness is its gauge"
    // Broken in Pot.thicknessWith: Math.max(allBlows - kind.smoothBlows, 0) => Math.max(allBlows, 0)
    // Broken in Pot.thicknessWith: Math.max(allBlows - kind.smoothBlows, 0) => allBlows - kind.smoothBlows
    static void blowsUntilItIsSmoothMakeNotThinner(Check check) {
        CopperStreet x = Check.streetWithPots(3);
        for (int pot = 0; pot < 3; pot++) {
            check.due("thickness without blows, pot " + pot, 3, x.potOf(pot, 2));
            check.due("planish just smooth, pot " + pot, 3, x.planish(pot, SMOOTH[pot]));
        }
    }

    // Promise 6, Terms: "but not less than 0"
    // Broken in Pot.thicknessWith: Math.max(gauge - beyond / BLOWS_TO_THIN, 0) => gauge - beyond / BLOWS_TO_THIN
    static void thicknessIsNotLessThan0(Check check) {
        CopperStreet x = Check.streetWithPots(1);
        check.due("planish(1, 99)", 0, x.planish(1, 99));
        check.due("thickness", 0, x.potOf(1, 2));
    }

    // Promise 6, Terms: "A pot with the thickness 0 is cracked."
    // Broken in Pot.crackingBlows: BLOWS_TO_THIN * gauge => BLOWS_TO_THIN * gauge - 1
    // Broken in Pot.crackingBlows: BLOWS_TO_THIN * gauge => BLOWS_TO_THIN * gauge + 1
    // Broken in Pot.isCracked: blows >= crackingBlows() => blows == crackingBlows()
    static void aPotWithThickness0IsCracked(Check check) {
        CopperStreet x = Streets.withSmoothPots(2);
        for (int pot = 0; pot < 3; pot++) {
            check.due("thickness, 11 blows beyond", 1, x.planish(pot, 11));
            check.due("cracked, 11 blows beyond", 0, x.potOf(pot, 7));
            check.due("thickness, 12 blows beyond", 0, x.planish(pot, 1));
            check.due("cracked, 12 blows beyond", 1, x.potOf(pot, 7));
        }
        CopperStreet y = Check.streetWithPots(1);
        y.planish(1, 23);
        check.due("cracked, one blow more than needed", 1, y.potOf(1, 7));
    }

    // Promise 7: "Buys bars of tin."
    // Promise 7: "Returns how many there are then"
    // Broken in Smith.buyBars: return shop.bars; => return bars;
    // Broken in Smith.buyBars: shop.bars += bars; => ;
    static void barsReturnsHowManyThereAre(Check check) {
        CopperStreet x = new CopperStreet();
        check.due("bars(3)", 23, x.bars(3));
        check.due("bars(4)", 27, x.bars(4));
        check.due("account(1)", 27, x.account(1));
    }

    // Promise 7: "how many, from 1 to 50"
    // Promise 7: "BAD if the number is out of range"
    // Broken in Smith.buyBars: bars < 1 => bars < 0
    // Broken in Smith.buyBars: bars < 1 => bars < 2
    static void theFewestBarsAre1(Check check) {
        CopperStreet x = new CopperStreet();
        check.due("bars(0)", BAD, x.bars(0));
        check.due("bars(-1)", BAD, x.bars(-1));
        check.due("bars(MIN)", BAD, x.bars(Integer.MIN_VALUE));
        check.due("bars(1)", 21, x.bars(1));
    }

    // Promise 7: "how many, from 1 to 50"
    // Promise 7: "BAD if the number is out of range"
    // Broken in CopperStreet: MOST_BARS = 50 => MOST_BARS = 49
    // Broken in CopperStreet: MOST_BARS = 50 => MOST_BARS = 51
    static void theMostBarsAre50(Check check) {
        CopperStreet x = Streets.withGoodPans(1);
        x.baker(1, 1, 99);
        check.due("coins", 128, x.sell(0, 0));
        check.due("bars(51)", BAD, x.bars(51));
        check.due("bars(MAX)", BAD, x.bars(Integer.MAX_VALUE));
        check.due("bars(50)", 64, x.bars(50));
    }

    // Promise 7, Terms: "a bar costs a coin"
    // Broken in Smith.buyBars: shop.coins -= bars => shop.coins -= 1
    // Broken in Smith.buyBars: shop.coins -= bars => shop.coins -= 2 * bars
    static void aBarCostsACoin(Check check) {
        CopperStreet x = new CopperStreet();
        x.bars(7);
        check.due("coins", 23, x.account(0));
    }

    // Promise 7: "REFUSED for 2"
    // Promise 7, Terms: "2, there are too few coins: how many are missing"
    // Broken in Smith.buyBars: shop.coins < bars => shop.coins <= bars
    // Broken in Smith.buyBars: shop.coins < bars => shop.coins + 1 < bars
    // Broken in Smith.buyBars: bars - shop.coins => shop.coins
    static void theLastCoinsBuyBars(Check check) {
        CopperStreet x = new CopperStreet();
        check.due("bars(31) for 30 coins", REFUSED, x.bars(31));
        check.reasonDue(x, 0, 2, 1);
        check.due("bars(30) for 30 coins", 50, x.bars(30));
        check.due("bars(1) for 0 coins", REFUSED, x.bars(1));
        check.reasonDue(x, 0, 2, 1);
        check.due("bars(50) for 0 coins", REFUSED, x.bars(50));
        check.reasonDue(x, 0, 2, 50);
    }

    // Promise 7, Terms: "If several codes apply, the one that is named first is returned."
    // Broken in Smith.buyBars: return BAD; => return shop.coins < bars ? REFUSED : BAD;
    static void barsAreBadBeforeTheyAreRefused(Check check) {
        check.due("bars(51) for 30 coins", BAD, new CopperStreet().bars(51));
    }

    // Promise 7, Terms: "A call that returns a code leaves everything as it was"
    // Broken in Smith.buyBars: return reasons.refuse( => shop.bars++; return reasons.refuse(
    // Broken in Smith.buyBars: return reasons.refuse( => shop.coins = 0; return reasons.refuse(
    // Broken in Smith.buyBars: return BAD; => shop.coins = 0; return BAD;
    static void barsThatAreNotBoughtLeaveAll(Check check) {
        CopperStreet x = new CopperStreet();
        x.bars(31);
        check.due("coins after REFUSED", 30, x.account(0));
        x.bars(0);
        check.due("coins after BAD", 30, x.account(0));
        check.due("bars", 20, x.account(1));
        check.due("changes", 0, x.account(15));
    }

    // Promise 8: "Tins a pot."
    // Promise 8: "Returns its tin then"
    // Promise 8, Terms: "A coat of tin makes the tin of a pot 1 thicker"
    // Broken in Smith.coat: return pot.tin; => return coats;
    // Broken in Smith.coat: pot.tin += coats => pot.tin = coats
    // Broken in Smith.coat: pot.tin += coats => pot.tin += 1
    static void coatsAddUp(Check check) {
        CopperStreet x = Streets.withSmoothPots(3);
        check.due("tin(1, 2)", 2, x.tin(1, 2));
        check.due("tin(1, 1)", 3, x.tin(1, 1));
        check.due("tin(1, 3)", 6, x.tin(1, 3));
        check.due("potOf(1, 4)", 6, x.potOf(1, 4));
    }

    // Promise 8: "how many coats, from 1 to 9"
    // Promise 8: "BAD if the number is out of range"
    // Broken in Smith.coat: coats < 1 => coats < 0
    // Broken in Smith.coat: coats < 1 => coats < 2
    static void theFewestCoatsAre1(Check check) {
        CopperStreet x = Streets.withSmoothPots(3);
        check.due("tin(1, 0)", BAD, x.tin(1, 0));
        check.due("tin(1, -1)", BAD, x.tin(1, -1));
        check.due("tin(1, MIN)", BAD, x.tin(1, Integer.MIN_VALUE));
        check.due("tin(1, 1)", 1, x.tin(1, 1));
    }

    // Promise 8: "how many coats, from 1 to 9"
    // Promise 8: "BAD if the number is out of range"
    // Broken in Smith.coat: coats < 1 || coats > MOST_TIN => coats < 1 || coats > MOST_TIN + 1
    // Broken in Smith.coat: coats < 1 || coats > MOST_TIN => coats < 1 || coats >= MOST_TIN
    static void theMostCoatsAre9(Check check) {
        CopperStreet x = Streets.withSmoothPots(3);
        check.due("tin(1, 10)", BAD, x.tin(1, 10));
        check.due("tin(1, MAX)", BAD, x.tin(1, Integer.MAX_VALUE));
        check.due("tin(1, 9)", 9, x.tin(1, 9));
    }

    // Promise 8: "NONE if there is no such pot"
    // Broken in Shop.potAt: number < potCount => number <= potCount
    // Broken in Shop.potAt: number >= 0 && => true &&
    // Broken in Smith.coat: return NONE; => return BAD;
    static void noPotIsTinned(Check check) {
        CopperStreet x = Streets.withSmoothPots(3);
        for (int pot : NO_POTS) {
            check.due("tin(" + pot + ", 1)", NONE, x.tin(pot, 1));
        }
        check.due("tin(2, 1)", 1, x.tin(2, 1));
    }

    // Promise 8, Terms: "up to 9"
    // Promise 8, Terms: "7, there would be too much tin: how thick it would be"
    // Broken in Smith.coat: pot.tin + coats > MOST_TIN => pot.tin + coats >= MOST_TIN
    // Broken in Smith.coat: pot.tin + coats > MOST_TIN => pot.tin + coats > MOST_TIN + 1
    // Broken in Smith.coat: reasons.refuse(TOO_MUCH_TIN, pot.tin + coats) => reasons.refuse(TOO_MUCH_TIN, pot.tin)
    static void tinIsUpTo9(Check check) {
        CopperStreet x = Streets.withSmoothPots(3);
        x.tin(1, 4);
        check.due("tin(1, 6)", REFUSED, x.tin(1, 6));
        check.reasonDue(x, 0, 7, 10);
        check.due("tin(1, 9)", REFUSED, x.tin(1, 9));
        check.reasonDue(x, 0, 7, 13);
        check.due("tin(1, 5)", 9, x.tin(1, 5));
        check.due("tin(1, 1)", REFUSED, x.tin(1, 1));
        check.reasonDue(x, 0, 7, 10);
    }

    // Promise 8, Terms: "and takes a quarter of a bar for each of its area"
    // Broken in Kind.barsOf: area * coats + 3 => area + 3
    // Broken in Kind.barsOf: area * coats + 3 => 8 * coats + 3
    // Broken in Smith.coat: shop.bars -= bars; => ;
    static void aCoatTakesAQuarterOfItsArea(Check check) {
        CopperStreet x = Streets.withSmoothPots(3);
        x.tin(0, 1);
        check.due("bars left by a kettle", 17, x.account(1));
        x.tin(1, 1);
        check.due("bars left by a pan", 15, x.account(1));
        x.tin(2, 1);
        check.due("bars left by a cauldron", 10, x.account(1));
        x.tin(1, 3);
        check.due("bars left by three coats of a pan", 4, x.account(1));
    }

    // All areas are whole fours, so that nothing is left to be rounded up: the sum must come out as it is.
    // Promise 8, Terms: "of several coats at once, the sum of these is rounded up"
    // Broken in Kind.barsOf: + 3) / 4 => + 4) / 4
    // Broken in Kind.barsOf: (area * coats + 3) / 4 => (area + 7) / 8 * coats * 2
    static void theSumOfTheCoatsIsRoundedUp(Check check) {
        CopperStreet x = Streets.withSmoothPots(3);
        x.bars(24);
        x.tin(0, 3);
        check.due("bars left by three coats of a kettle", 35, x.account(1));
        x.tin(1, 5);
        check.due("bars left by five coats of a pan", 25, x.account(1));
        x.tin(2, 3);
        check.due("bars left by three coats of a cauldron", 10, x.account(1));
    }

    // Promise 8: "REFUSED for 4, 5, 6, 7 or 8"
    // Promise 8, Terms: "8, there are too few bars: how many are missing"
    // Broken in Smith.coat: shop.bars < bars => shop.bars <= bars
    // Broken in Smith.coat: shop.bars < bars => shop.bars + 1 < bars
    // Broken in Smith.coat: reasons.refuse(TOO_FEW_BARS, bars - shop.bars) => reasons.refuse(TOO_FEW_BARS, bars)
    static void theLastBarsTinAPot(Check check) {
        CopperStreet x = Streets.withSmoothPots(3);
        x.tin(0, 3);
        check.due("bars", 11, x.account(1));
        check.due("tin(0, 4) with 1 missing", REFUSED, x.tin(0, 4));
        check.reasonDue(x, 0, 8, 1);
        x.tin(0, 1);
        check.due("tin(1, 4) with just enough", 4, x.tin(1, 4));
        check.due("bars", 0, x.account(1));
        check.due("tin(2, 2) without bars", REFUSED, x.tin(2, 2));
        check.reasonDue(x, 0, 8, 10);
    }

    // Promise 8: "REFUSED for 4, 5, 6, 7 or 8"
    // Promise 8, Terms: "in the order in which it names them"
    // Broken in Smith.coat: if (!isWorkable(pot)) => if (pot.tin + coats <= MOST_TIN && !isWorkable(pot))
    static void aSoldPotComesBeforeTooMuchTin(Check check) {
        CopperStreet x = Streets.withSoldPan();
        check.due("tin(2, 9)", REFUSED, x.tin(2, 9));
        check.reasonDue(x, 0, 4, 0);
    }

    // Promise 8: "REFUSED for 4, 5, 6, 7 or 8"
    // Promise 8, Terms: "in the order in which it names them"
    // Broken in Smith.coat: if (!isWorkable(pot)) => if (pot.tin + coats <= MOST_TIN && !isWorkable(pot))
    // Broken in Smith.coat: if (!isWorkable(pot)) => if (shop.bars >= 2 * coats && !isWorkable(pot))
    static void aCrackedPotComesBeforeTooMuchTin(Check check) {
        CopperStreet x = Streets.withSmoothPots(1);
        x.tin(1, 1);
        x.planish(1, 6);
        check.due("tin(1, 9)", REFUSED, x.tin(1, 9));
        check.reasonDue(x, 0, 5, 1);
        x.tin(0, 6);
        check.due("tin(1, 1) without bars", REFUSED, x.tin(1, 1));
        check.reasonDue(x, 0, 5, 1);
    }

    // Promise 8: "REFUSED for 4, 5, 6, 7 or 8"
    // Promise 8, Terms: "6, the pot is not smooth: how many blows are missing"
    // Broken in Smith.coat: if (!pot.isSmooth()) => if (pot.blows + 1 < pot.kind.smoothBlows)
    // Broken in Smith.coat: if (!pot.isSmooth()) => if (pot.blows <= pot.kind.smoothBlows)
    // Broken in Smith.coat: pot.blowsMissing(pot.kind.smoothBlows) => pot.kind.smoothBlows
    static void aPotThatIsNotSmoothIsNotTinned(Check check) {
        CopperStreet x = Check.streetWithPots(3);
        for (int pot = 0; pot < 3; pot++) {
            x.planish(pot, SMOOTH[pot] - 1);
            check.due("tin with one blow missing", REFUSED, x.tin(pot, 1));
            check.reasonDue(x, 0, 6, 1);
            x.planish(pot, 1);
            check.due("tin with just enough blows", 1, x.tin(pot, 1));
        }
    }

    // Promise 8: "REFUSED for 4, 5, 6, 7 or 8"
    // Promise 8, Terms: "in the order in which it names them"
    // Broken in Smith.coat: if (!pot.isSmooth()) => if (!pot.isSmooth() && shop.bars >= pot.kind.barsOf(coats))
    static void aPotThatIsNotSmoothComesBeforeTooFewBars(Check check) {
        CopperStreet x = Check.streetWithPots(3);
        check.due("tin(2, 9)", REFUSED, x.tin(2, 9));
        check.reasonDue(x, 0, 6, 40);
    }

    // Promise 8: "REFUSED for 4, 5, 6, 7 or 8"
    // Promise 8, Terms: "in the order in which it names them"
    // Broken in Smith.coat: if (pot.tin + coats > MOST_TIN) => if (pot.tin + coats > MOST_TIN && shop.bars > 9)
    static void tooMuchTinComesBeforeTooFewBars(Check check) {
        CopperStreet x = Streets.withSmoothPots(3);
        x.tin(0, 6);
        check.due("bars", 2, x.account(1));
        check.due("tin(0, 4)", REFUSED, x.tin(0, 4));
        check.reasonDue(x, 0, 7, 10);
    }

    // Promise 8, Terms: "If several codes apply, the one that is named first is returned."
    // Broken in Smith.coat: return NONE; => return coats < 1 || coats > MOST_TIN ? BAD : NONE;
    // Broken in Smith.coat: return BAD; => return isWorkable(pot) ? BAD : REFUSED;
    static void tinTellsNoneThenBadThenRefused(Check check) {
        CopperStreet x = Streets.withSoldPan();
        check.due("tin(3, 0)", NONE, x.tin(3, 0));
        check.due("tin(-1, 10)", NONE, x.tin(-1, 10));
        check.due("tin(2, 0) of the sold pot", BAD, x.tin(2, 0));
        check.due("tin(2, 10) of the sold pot", BAD, x.tin(2, 10));
    }

    // Promise 8, Terms: "A call that returns a code leaves everything as it was"
    // Broken in Smith.coat: return REFUSED; => pot.tin++; return REFUSED;
    // Broken in Smith.coat: return reasons.refuse(TOO_MUCH_TIN, => pot.tin = 9; return reasons.refuse(TOO_MUCH_TIN,
    // Broken in Smith.coat: return reasons.refuse(TOO_FEW_BARS, => shop.bars = 0; return reasons.refuse(TOO_FEW_BARS,
    // Broken in Smith.coat: return reasons.refuse(POT_NOT_SMOOTH, => shop.coats++; return reasons.refuse(POT_NOT_SMOOTH,
    static void coatsThatAreNotLaidLeaveAll(Check check) {
        CopperStreet x = Streets.withSmoothPots(1);
        x.tin(1, 4);
        x.tin(1, 6);
        check.due("tin after too much", 4, x.potOf(1, 4));
        x.tin(0, 5);
        check.due("bars after too few", 12, x.account(1));
        x.undo();
        x.planish(1, 6);
        x.tin(1, 1);
        check.due("tin of the cracked pot", 0, x.potOf(1, 4));
        x.raise(0, 1);
        x.tin(3, 1);
        check.due("tin of the pot that is not smooth", 0, x.potOf(3, 4));
        check.due("coats so far", 0, x.account(11));
        check.due("bars", 20, x.account(1));
    }

    // Promise 8, Terms: "Coats of tin on a pot whose tin is worn in part leave the meals that have not worn it yet."
    // Broken in Smith.coat: pot.tin += coats; => pot.tin += coats; pot.mealsNotWorn = 0;
    static void coatsLeaveTheMealsThatHaveNotWorn(Check check) {
        CopperStreet x = Streets.withSmoothPots(3);
        x.tin(0, 1);
        x.cook(0, 3);
        x.tin(0, 2);
        check.due("meals to wear it through", 9, x.mealsTo(0));
        check.due("cook(0, 1)", 2, x.cook(0, 1));
    }

    // Promise 9: "Cooks meals in a pot."
    // Promise 9: "Returns its tin then"
    // Broken in Smith.use: return pot.tin; => return pot.meals;
    // Broken in Pot.wear: meals += newMeals => meals = newMeals
    static void mealsAddUp(Check check) {
        CopperStreet x = Streets.withSmoothPots(3);
        x.tin(0, 4);
        check.due("cook(0, 5)", 3, x.cook(0, 5));
        check.due("cook(0, 5)", 2, x.cook(0, 5));
        check.due("meals", 10, x.potOf(0, 5));
    }

    // Promise 9: "how many, from 1 to 99"
    // Promise 9: "BAD if the number is out of range"
    // Broken in Smith.use: meals < 1 => meals < 0
    // Broken in Smith.use: meals < 1 => meals < 2
    static void theFewestMealsAre1(Check check) {
        CopperStreet x = Streets.withSmoothPots(3);
        x.tin(0, 4);
        check.due("cook(0, 0)", BAD, x.cook(0, 0));
        check.due("cook(0, -1)", BAD, x.cook(0, -1));
        check.due("cook(0, MIN)", BAD, x.cook(0, Integer.MIN_VALUE));
        check.due("cook(0, 1)", 4, x.cook(0, 1));
    }

    // Promise 9: "how many, from 1 to 99"
    // Promise 9: "BAD if the number is out of range"
    // Broken in Smith.use: meals > MOST_MEALS => meals > MOST_MEALS + 1
    // Broken in Smith.use: meals > MOST_MEALS => meals >= MOST_MEALS
    static void theMostMealsAre99(Check check) {
        CopperStreet x = Streets.withSmoothPots(3);
        x.tin(0, 4);
        check.due("cook(0, 100)", BAD, x.cook(0, 100));
        check.due("cook(0, MAX)", BAD, x.cook(0, Integer.MAX_VALUE));
        check.due("cook(0, 99)", 0, x.cook(0, 99));
        check.due("meals", 99, x.potOf(0, 5));
    }

    // Promise 9: "NONE if there is no such pot"
    // Broken in Shop.potAt: number < potCount => number <= potCount
    // Broken in Shop.potAt: number >= 0 && => true &&
    // Broken in Smith.use: return NONE; => return BAD;
    static void inNoPotIsCooked(Check check) {
        CopperStreet x = Streets.withSmoothPots(3);
        x.tin(2, 1);
        for (int pot : NO_POTS) {
            check.due("cook(" + pot + ", 1)", NONE, x.cook(pot, 1));
        }
        check.due("cook(2, 1)", 1, x.cook(2, 1));
    }

    // Promise 9: "REFUSED for 4, 5 or 9"
    // Promise 9, Terms: "4, the pot is sold"
    // Broken in Smith.isWorkable: if (pot.isSold()) => if (pot.isSold() && false)
    static void inASoldPotIsNotCooked(Check check) {
        CopperStreet x = Streets.withSoldPan();
        check.due("cook(2, 1)", REFUSED, x.cook(2, 1));
        check.reasonDue(x, 0, 4, 0);
        check.due("meals", 0, x.potOf(2, 5));
    }

    // Promise 9: "REFUSED for 4, 5 or 9"
    // Promise 9, Terms: "in the order in which it names them"
    // Broken in Smith.use: if (!isWorkable(pot)) => if (pot.tin > 0 && !isWorkable(pot))
    // Broken in Smith.use: if (!isWorkable(pot)) => if (pot.isSold())
    static void aCrackedPotComesBeforeOneWithoutTin(Check check) {
        CopperStreet x = Streets.withSmoothPots(1);
        x.planish(1, 6);
        check.due("cook(1, 1) without tin", REFUSED, x.cook(1, 1));
        check.reasonDue(x, 0, 5, 1);
        x.tin(0, 1);
        x.planish(0, 6);
        check.due("cook(0, 1) with tin", REFUSED, x.cook(0, 1));
        check.reasonDue(x, 0, 5, 0);
    }

    // Promise 9: "REFUSED for 4, 5 or 9"
    // Promise 9, Terms: "In a pot with tin meals are cooked"
    // Promise 9, Terms: "9, the pot has no tin: the pot"
    // Broken in Smith.use: if (pot.tin == 0) => if (pot.tin == 0 && pot.meals == 0)
    // Broken in Smith.use: if (pot.tin == 0) => if (pot.tin == 0 && pot.meals > 0)
    // Broken in Smith.use: if (pot.tin == 0) => if (pot.tin <= 1)
    static void inAPotWithoutTinIsNotCooked(Check check) {
        CopperStreet x = Streets.withSmoothPots(3);
        check.due("cook(1, 1) without tin", REFUSED, x.cook(1, 1));
        check.reasonDue(x, 0, 9, 1);
        x.tin(1, 1);
        check.due("cook(1, 1) with 1 of tin", 1, x.cook(1, 1));
        check.due("cook(1, 1) with 1 of tin", 0, x.cook(1, 1));
        check.due("cook(1, 1) worn through", REFUSED, x.cook(1, 1));
        check.reasonDue(x, 0, 9, 1);
    }

    // Promise 9, Terms: "If several codes apply, the one that is named first is returned."
    // Broken in Smith.use: return NONE; => return meals < 1 || meals > MOST_MEALS ? BAD : NONE;
    // Broken in Smith.use: return BAD; => return pot.tin == 0 ? REFUSED : BAD;
    static void cookTellsNoneThenBadThenRefused(Check check) {
        CopperStreet x = Check.streetWithPots(3);
        check.due("cook(3, 0)", NONE, x.cook(3, 0));
        check.due("cook(-1, 100)", NONE, x.cook(-1, 100));
        check.due("cook(0, 0) without tin", BAD, x.cook(0, 0));
        check.due("cook(0, 100) without tin", BAD, x.cook(0, 100));
    }

    // Promise 9, Terms: "A call that returns a code leaves everything as it was"
    // Broken in Smith.use: return BAD; => pot.meals++; return BAD;
    // Broken in Smith.use: return REFUSED; => pot.meals++; return REFUSED;
    // Broken in Smith.use: return reasons.refuse( => pot.meals++; return reasons.refuse(
    static void mealsThatAreNotCookedLeaveAll(Check check) {
        CopperStreet x = Streets.withSmoothPots(1);
        x.cook(0, 0);
        x.cook(0, 9);
        check.due("meals without tin", 0, x.potOf(0, 5));
        x.planish(1, 6);
        x.cook(1, 9);
        check.due("meals of the cracked pot", 0, x.potOf(1, 5));
        check.due("meals so far", 0, x.account(10));
    }

    // Promise 9, Terms: "each 4 meals wear the tin of a kettle by 1, each 2 that of a pan, each 6 that of a cauldron"
    // Broken in Kind: "kettle", 0, 12, 4, => "kettle", 0, 12, 3,
    // Broken in Kind: "kettle", 0, 12, 4, => "kettle", 0, 12, 5,
    // Broken in Kind: "pan", 1, 8, 2, => "pan", 1, 8, 1,
    // Broken in Kind: "pan", 1, 8, 2, => "pan", 1, 8, 3,
    // Broken in Kind: "cauldron", 2, 20, 6, => "cauldron", 2, 20, 5,
    // Broken in Kind: "cauldron", 2, 20, 6, => "cauldron", 2, 20, 7,
    static void eachKindWearsByItsMeals(Check check) {
        int[] meals = {4, 2, 6};
        for (int pot = 0; pot < 3; pot++) {
            CopperStreet x = Streets.withSmoothPots(3);
            x.tin(pot, 3);
            check.due("one meal less, pot " + pot, 3, x.cook(pot, meals[pot] - 1));
            x.undo();
            check.due("just so many meals, pot " + pot, 2, x.cook(pot, meals[pot]));
            check.due("twice as many meals, pot " + pot, 1, x.cook(pot, meals[pot]));
        }
    }

    // Promise 9, Terms: "Meals that have not worn it yet count on."
    // Broken in Pot.wear: mealsNotWorn += newMeals => mealsNotWorn = newMeals
    static void mealsThatHaveNotWornCountOn(Check check) {
        CopperStreet x = Streets.withSmoothPots(3);
        x.tin(0, 2);
        check.due("cook(0, 3)", 2, x.cook(0, 3));
        check.due("cook(0, 1)", 1, x.cook(0, 1));
        check.due("cook(0, 2)", 1, x.cook(0, 2));
        check.due("cook(0, 2)", 0, x.cook(0, 2));
    }

    // Promise 9, Terms: "Where the tin is worn through, further meals do not count on."
    // Broken in Pot.wear: mealsNotWorn = 0; => ;
    static void mealsBehindTheWearingThroughDoNotCountOn(Check check) {
        CopperStreet x = Streets.withSmoothPots(3);
        x.tin(0, 1);
        check.due("cook(0, 7) in 1 of tin", 0, x.cook(0, 7));
        x.tin(0, 1);
        check.due("cook(0, 3) in new tin", 1, x.cook(0, 3));
        check.due("cook(0, 1)", 0, x.cook(0, 1));
    }

    // Promise 9, Terms: "All meals that are cooked in a pot count as cooked in it, also those behind the wearing through of its tin."
    // Broken in Pot.wear: meals += newMeals => meals += Math.min(newMeals, mealsLeft())
    static void allMealsCountAsCooked(Check check) {
        CopperStreet x = Streets.withSmoothPots(3);
        x.tin(0, 1);
        x.cook(0, 50);
        check.due("meals of the pot", 50, x.potOf(0, 5));
        check.due("meals so far", 50, x.account(10));
    }

    // Promise 9, Terms: "A pot that was cooked in stays one that is not new, however it is tinned."
    // Broken in Smith.coat: pot.tin += coats; => pot.tin += coats; pot.meals = 0;
    static void newTinMakesNoNewPot(Check check) {
        CopperStreet x = Streets.withSmoothPots(3);
        x.tin(1, 1);
        x.cook(1, 2);
        x.tin(1, 9);
        x.baker(1, 9, 50);
        check.due("sell(1, 0) for half", 27 + 25, x.sell(1, 0));
    }
}

/** Promises 1, 4 and 5, sentence by sentence: a new street, its sheets, and the pots that are raised from them. */
public final class CopperEdgesTest {
    private static final int NONE = CopperStreet.NONE;
    private static final int BAD = CopperStreet.BAD;
    private static final int REFUSED = CopperStreet.REFUSED;

    public static void main(String[] args) throws ReflectiveOperationException {
        Edges.run(CopperEdgesTest.class);
    }

    // Promise 1: "Creates a street without sheets, pots and orders."
    // Broken in Shop: int sheetCount = 0 => int sheetCount = 1
    // Broken in Shop: int potCount = 0 => int potCount = 1
    // Broken in Shop: int orderCount = 0 => int orderCount = 1
    static void aNewStreetIsEmpty(Check check) {
        CopperStreet x = new CopperStreet();
        check.due("sheets", 0, x.account(2));
        check.due("pots", 0, x.account(3));
        check.due("orders", 0, x.account(7));
        check.due("sheetOf(0, 0)", NONE, x.sheetOf(0, 0));
        check.due("potOf(0, 0)", NONE, x.potOf(0, 0));
        check.due("orderOf(0, 0)", NONE, x.orderOf(0, 0));
    }

    // Promise 1: "Creates a street"
    // Broken in CopperStreet: private final Smith smith => private static final Smith smith
    static void aNewStreetIsApartFromOthers(Check check) {
        Check.streetWithPots(5);
        CopperStreet x = new CopperStreet();
        check.due("sheets beside another street", 0, x.account(2));
        check.due("coins beside another street", 30, x.account(0));
    }

    // Promise 1, Terms: "There are 30 coins at first."
    // Broken in CopperStreet: FIRST_COINS = 30 => FIRST_COINS = 29
    static void thirtyCoinsAtFirst(Check check) {
        check.due("account(0)", 30, new CopperStreet().account(0));
    }

    // Promise 1, Terms: "The shop has bars of tin, 20 at first"
    // Broken in CopperStreet: FIRST_BARS = 20 => FIRST_BARS = 21
    static void twentyBarsAtFirst(Check check) {
        check.due("account(1)", 20, new CopperStreet().account(1));
    }

    // Promise 1, What it is: "An object is used for at most 512 calls after it has been made"
    // Broken in History.keep: (next + 1) % (MOST_CHANGES + 1) => next + 1
    static void theCall512IsAnswered(Check check) {
        CopperStreet x = new CopperStreet();
        x.save();
        int calls = 1;
        while (calls < 500) {
            for (int change = 0; change < 12; change++) {
                x.bars(1);
            }
            x.restore();
            calls += 13;
        }
        while (calls < 511) {
            x.bars(1);
            calls++;
        }
        check.due("account(1) as call 512", 23, x.account(1));
    }

    // The test names the numbers themselves, since a constant of another class is taken over when a test is compiled.
    // Promise 1, Terms: "`NONE = -1`: There is no such number."
    // Promise 1, Terms: "`BAD = -2`: A number is out of range, or a text has a fault."
    // Promise 1, Terms: "`REFUSED = -3`: It is refused for a reason."
    // Promise 1, Terms: "`NOTHING = -4`: There is nothing of this kind."
    // Broken in CopperStreet: NONE = -1 => NONE = -5
    // Broken in CopperStreet: BAD = -2 => BAD = -5
    // Broken in CopperStreet: REFUSED = -3 => REFUSED = -5
    // Broken in CopperStreet: NOTHING = -4 => NOTHING = -5
    static void theCodesAreTheConstants(Check check) {
        CopperStreet x = new CopperStreet();
        check.due("raise(0, 0)", -1, x.raise(0, 0));
        check.due("sheet(0, 20)", -2, x.sheet(0, 20));
        check.due("read() of no text", -2, x.read());
        check.due("bars(31)", -3, x.bars(31));
        check.due("undo()", -4, x.undo());
    }

    // Promise 4: "Buys a sheet."
    // Promise 4: "its gauge"
    // Promise 4: "its area"
    // Broken in Sheet.arrive: gauge = newGauge => gauge = 1
    // Broken in Sheet.arrive: firstArea = newArea => firstArea = 60
    static void aSheetHasItsGaugeAndArea(Check check) {
        CopperStreet x = new CopperStreet();
        x.sheet(4, 37);
        check.due("sheetOf(0, 0)", 4, x.sheetOf(0, 0));
        check.due("sheetOf(0, 1)", 37, x.sheetOf(0, 1));
        check.due("sheetOf(0, 3)", 37, x.sheetOf(0, 3));
    }

    // Promise 4: "Returns its number"
    // Promise 4, Terms: "numbered from 0"
    // Broken in Smith.buySheet: return number; => return number + 1;
    static void sheetsAreNumberedFrom0(Check check) {
        CopperStreet x = new CopperStreet();
        check.due("first sheet", 0, x.sheet(1, 20));
        check.due("second sheet", 1, x.sheet(1, 20));
    }

    // Promise 4: "BAD if a number is out of range"
    // Promise 4, Terms: "each with a gauge from 1"
    // Broken in Smith.buySheet: gauge < 1 => gauge < 0
    // Broken in Smith.buySheet: gauge < 1 => gauge < 2
    static void theLeastGaugeIs1(Check check) {
        CopperStreet x = new CopperStreet();
        check.due("sheet(0, 20)", BAD, x.sheet(0, 20));
        check.due("sheet(-1, 20)", BAD, x.sheet(-1, 20));
        check.due("sheet(MIN, 20)", BAD, x.sheet(Integer.MIN_VALUE, 20));
        check.due("sheet(1, 20)", 0, x.sheet(1, 20));
    }

    // Promise 4: "BAD if a number is out of range"
    // Promise 4, Terms: "a gauge from 1 to 9"
    // Broken in Smith.buySheet: gauge > MOST_GAUGE => gauge > MOST_GAUGE + 1
    // Broken in Smith.buySheet: gauge > MOST_GAUGE => gauge >= MOST_GAUGE
    static void theHighestGaugeIs9(Check check) {
        CopperStreet x = new CopperStreet();
        check.due("sheet(10, 20)", BAD, x.sheet(10, 20));
        check.due("sheet(MAX, 20)", BAD, x.sheet(Integer.MAX_VALUE, 20));
        check.due("sheet(9, 20)", 0, x.sheet(9, 20));
    }

    // Promise 4: "BAD if a number is out of range"
    // Promise 4, Terms: "an area from 10"
    // Broken in Smith.buySheet: area < LEAST_AREA => area < LEAST_AREA - 1
    // Broken in Smith.buySheet: area < LEAST_AREA => area <= LEAST_AREA
    static void theLeastAreaIs10(Check check) {
        CopperStreet x = new CopperStreet();
        check.due("sheet(1, 9)", BAD, x.sheet(1, 9));
        check.due("sheet(1, -20)", BAD, x.sheet(1, -20));
        check.due("sheet(1, MIN)", BAD, x.sheet(1, Integer.MIN_VALUE));
        check.due("sheet(1, 10)", 0, x.sheet(1, 10));
    }

    // Promise 4: "BAD if a number is out of range"
    // Promise 4, Terms: "an area from 10 to 60"
    // Broken in Smith.buySheet: area > MOST_AREA => area > MOST_AREA + 1
    // Broken in Smith.buySheet: area > MOST_AREA => area >= MOST_AREA
    static void theHighestAreaIs60(Check check) {
        CopperStreet x = new CopperStreet();
        check.due("sheet(1, 61)", BAD, x.sheet(1, 61));
        check.due("sheet(1, MAX)", BAD, x.sheet(1, Integer.MAX_VALUE));
        check.due("sheet(1, 60)", 0, x.sheet(1, 60));
    }

    // Promise 4, Terms: "At most 12 sheets are bought in all"
    // Broken in CopperStreet: MOST_SHEETS = 12 => MOST_SHEETS = 11
    // Broken in CopperStreet: MOST_SHEETS = 12 => MOST_SHEETS = 13
    static void twelveSheetsAtMost(Check check) {
        CopperStreet x = new CopperStreet();
        for (int number = 0; number < 12; number++) {
            check.due("sheet " + number, number, x.sheet(1, 10));
        }
        check.due("a sheet more", REFUSED, x.sheet(1, 10));
        check.due("account(2)", 12, x.account(2));
    }

    // Promise 4, Terms: "for as many coins as its gauge tells"
    // Broken in Smith.buySheet: shop.coins -= gauge => shop.coins -= 1
    // Broken in Smith.buySheet: shop.coins -= gauge => shop.coins -= area / 10
    static void aSheetCostsItsGauge(Check check) {
        CopperStreet x = new CopperStreet();
        x.sheet(9, 10);
        check.due("coins after gauge 9", 21, x.account(0));
        x.sheet(1, 60);
        check.due("coins after gauge 1", 20, x.account(0));
    }

    // Promise 4: "REFUSED for 1 or 2"
    // Promise 4, Terms: "2, there are too few coins"
    // Broken in Smith.buySheet: shop.coins < gauge => shop.coins <= gauge
    // Broken in Smith.buySheet: shop.coins < gauge => shop.coins + 1 < gauge
    static void theLastCoinsBuyASheet(Check check) {
        CopperStreet x = new CopperStreet();
        x.bars(26);
        check.due("sheet(5, 20) for 4 coins", REFUSED, x.sheet(5, 20));
        check.due("sheet(4, 20) for 4 coins", 0, x.sheet(4, 20));
        check.due("sheet(1, 20) for 0 coins", REFUSED, x.sheet(1, 20));
    }

    // Promise 4: "REFUSED for 1 or 2"
    // Promise 4, Terms: "in the order in which it names them"
    // Broken in Smith.buySheet: if (number >= MOST_SHEETS) => if (number >= MOST_SHEETS && shop.coins >= gauge)
    static void tooManySheetsComeBeforeTooFewCoins(Check check) {
        CopperStreet x = new CopperStreet();
        for (int number = 0; number < 12; number++) {
            x.sheet(1, 10);
        }
        x.bars(18);
        check.due("sheet(1, 10)", REFUSED, x.sheet(1, 10));
        check.reasonDue(x, 0, 1, 12);
    }

    // Promise 4, Terms: "If several codes apply, the one that is named first is returned."
    // Broken in Smith.buySheet: return BAD; => return shop.coins < gauge ? REFUSED : BAD;
    static void aSheetIsBadBeforeItIsRefused(Check check) {
        CopperStreet x = new CopperStreet();
        x.bars(25);
        check.due("sheet(10, 20) for 5 coins", BAD, x.sheet(10, 20));
        check.due("sheet(9, 61) for 5 coins", BAD, x.sheet(9, 61));
    }

    // Promise 4, Terms: "A call that returns a code leaves everything as it was"
    // Broken in Smith.buySheet: return reasons.refuse(TOO_FEW_COINS, => shop.coins--; return reasons.refuse(TOO_FEW_COINS,
    // Broken in Smith.buySheet: return reasons.refuse(TOO_FEW_COINS, => shop.sheetCount++; return reasons.refuse(TOO_FEW_COINS,
    // Broken in Smith.buySheet: return BAD; => shop.coins--; return BAD;
    static void aSheetThatIsNotBoughtLeavesAll(Check check) {
        CopperStreet x = new CopperStreet();
        x.bars(25);
        x.sheet(6, 20);
        x.sheet(0, 20);
        check.due("coins", 5, x.account(0));
        check.due("sheets", 0, x.account(2));
        check.due("changes", 1, x.account(15));
    }

    // Promise 5: "Raises a pot from a sheet."
    // Promise 5: "the sheet"
    // Promise 5: "the kind of the pot"
    // Promise 5, Terms: "each of a kind"
    // Broken in Pot.arrive: kind = newKind => kind = Kind.KETTLE
    // Broken in Pot.arrive: sheet = newSheet => sheet = 0
    static void aPotHasItsKindAndSheet(Check check) {
        CopperStreet x = new CopperStreet();
        x.sheet(2, 30);
        x.sheet(3, 30);
        x.raise(1, 2);
        check.due("kind", 2, x.potOf(0, 0));
        check.due("sheet", 1, x.potOf(0, 9));
    }

    // Promise 5: "Returns its number"
    // Promise 5, Terms: "numbered from 0"
    // Broken in Smith.raisePot: return number; => return number + 1;
    static void potsAreNumberedFrom0(Check check) {
        CopperStreet x = new CopperStreet();
        x.sheet(2, 60);
        check.due("first pot", 0, x.raise(0, 1));
        check.due("second pot", 1, x.raise(0, 1));
    }

    // Promise 5: "NONE if there is no such sheet"
    // Broken in Shop.sheetAt: number < sheetCount => number <= sheetCount
    // Broken in Shop.sheetAt: number >= 0 && => true &&
    // Broken in Smith.raisePot: return NONE; => return BAD;
    static void noPotIsRaisedFromNoSheet(Check check) {
        CopperStreet x = new CopperStreet();
        check.due("raise(0, 0) without sheets", NONE, x.raise(0, 0));
        x.sheet(2, 60);
        check.due("raise(-1, 0)", NONE, x.raise(-1, 0));
        check.due("raise(1, 0)", NONE, x.raise(1, 0));
        check.due("raise(MIN, 0)", NONE, x.raise(Integer.MIN_VALUE, 0));
        check.due("raise(MAX, 0)", NONE, x.raise(Integer.MAX_VALUE, 0));
        check.due("raise(0, 0)", 0, x.raise(0, 0));
    }

    // Promise 5: "BAD if there is no such kind"
    // Broken in Kind.numbered: number < ALL.length ? ALL[number] : null => number < ALL.length ? ALL[number] : ALL[0]
    // Broken in Kind.numbered: number < ALL.length => number <= ALL.length
    // Broken in Kind.numbered: number >= 0 && => true &&
    static void thereAreKinds0To2(Check check) {
        CopperStreet x = new CopperStreet();
        x.sheet(2, 60);
        check.due("raise(0, -1)", BAD, x.raise(0, -1));
        check.due("raise(0, 3)", BAD, x.raise(0, 3));
        check.due("raise(0, MIN)", BAD, x.raise(0, Integer.MIN_VALUE));
        check.due("raise(0, MAX)", BAD, x.raise(0, Integer.MAX_VALUE));
        check.due("raise(0, 0)", 0, x.raise(0, 0));
        check.due("raise(0, 2)", 1, x.raise(0, 2));
    }

    // Promise 5, Terms: "0, a kettle, takes an area of 12 from a sheet, 1, a pan, 8, and 2, a cauldron, 20."
    // Broken in Kind: "kettle", 0, 12, => "kettle", 0, 11,
    // Broken in Kind: "pan", 1, 8, => "pan", 1, 9,
    // Broken in Kind: "cauldron", 2, 20, => "cauldron", 2, 21,
    // Broken in Smith.raisePot: sheet.area -= kind.area; => ;
    static void eachKindTakesItsArea(Check check) {
        CopperStreet x = new CopperStreet();
        x.sheet(2, 60);
        x.raise(0, 0);
        check.due("area left by a kettle", 48, x.sheetOf(0, 1));
        x.raise(0, 1);
        check.due("area left by a pan", 40, x.sheetOf(0, 1));
        x.raise(0, 2);
        check.due("area left by a cauldron", 20, x.sheetOf(0, 1));
    }

    // Promise 5: "REFUSED for 1 or 3"
    // Promise 5, Terms: "3, the sheet is too small: how much of its area is missing"
    // Broken in Smith.raisePot: sheet.area < kind.area => sheet.area <= kind.area
    // Broken in Smith.raisePot: sheet.area < kind.area => sheet.area + 1 < kind.area
    // Broken in Smith.raisePot: kind.area - sheet.area => kind.area
    static void aSheetOfJustTheAreaIsLargeEnough(Check check) {
        int[] areas = {12, 8, 20};
        for (int kind = 0; kind < 3; kind++) {
            CopperStreet x = new CopperStreet();
            x.sheet(1, 20 + areas[kind]);
            x.sheet(1, 19 + areas[kind]);
            x.raise(0, 2);
            x.raise(1, 2);
            check.due("raise with 1 missing, kind " + kind, REFUSED, x.raise(1, kind));
            check.reasonDue(x, 0, 3, 1);
            check.due("raise with just enough, kind " + kind, 2, x.raise(0, kind));
            check.due("area left", 0, x.sheetOf(0, 1));
            check.due("raise with nothing left, kind " + kind, REFUSED, x.raise(0, kind));
            check.reasonDue(x, 0, 3, areas[kind]);
        }
    }

    // Promise 5, Terms: "At most 16 pots are raised in all"
    // Broken in CopperStreet: MOST_POTS = 16 => MOST_POTS = 15
    // Broken in CopperStreet: MOST_POTS = 16 => MOST_POTS = 17
    static void sixteenPotsAtMost(Check check) {
        CopperStreet x = Streets.withPans(15);
        check.due("pots", 15, x.account(3));
        check.due("the last pot", 15, x.raise(2, 1));
        check.due("a pot more", REFUSED, x.raise(2, 1));
        check.reasonDue(x, 0, 1, 16);
        check.due("pots", 16, x.account(3));
    }

    // Promise 5: "REFUSED for 1 or 3"
    // Promise 5, Terms: "in the order in which it names them"
    // Broken in Smith.raisePot: if (number >= MOST_POTS) => if (number >= MOST_POTS && sheet.area >= kind.area)
    static void tooManyPotsComeBeforeATooSmallSheet(Check check) {
        CopperStreet x = Streets.withPans(16);
        check.due("raise from 4 of area", REFUSED, x.raise(0, 1));
        check.reasonDue(x, 0, 1, 16);
    }

    // Promise 5, Terms: "If several codes apply, the one that is named first is returned."
    // Broken in Smith.raisePot: return NONE; => return Kind.numbered(kindNumber) == null ? BAD : NONE;
    // Broken in Smith.raisePot: return BAD; => return shop.potCount >= MOST_POTS ? REFUSED : BAD;
    static void raiseTellsNoneThenBadThenRefused(Check check) {
        CopperStreet x = Streets.withPans(16);
        check.due("raise(3, 3)", NONE, x.raise(3, 3));
        check.due("raise(-1, -1)", NONE, x.raise(-1, -1));
        check.due("raise(2, 3)", BAD, x.raise(2, 3));
        check.due("raise(2, 1)", REFUSED, x.raise(2, 1));
    }

    // Promise 5, Terms: "A call that returns a code leaves everything as it was"
    // Broken in Smith.raisePot: return reasons.refuse(SHEET_TOO_SMALL, => sheet.pots++; return reasons.refuse(SHEET_TOO_SMALL,
    // Broken in Smith.raisePot: return reasons.refuse(SHEET_TOO_SMALL, => sheet.area = 0; return reasons.refuse(SHEET_TOO_SMALL,
    // Broken in Smith.raisePot: return BAD; => shop.potCount++; return BAD;
    static void aPotThatIsNotRaisedLeavesAll(Check check) {
        CopperStreet x = new CopperStreet();
        x.sheet(2, 11);
        x.raise(0, 0);
        x.raise(0, 3);
        x.raise(1, 0);
        check.due("pots", 0, x.account(3));
        check.due("area left", 11, x.sheetOf(0, 1));
        check.due("pots raised from it", 0, x.sheetOf(0, 2));
        check.due("changes", 1, x.account(15));
    }

    // Promise 5, Terms: "It has the gauge of the sheet, no blows, and no tin."
    // Broken in Pot.arrive: gauge = newGauge => gauge = 1
    // Broken in Pot.arrive: blows = 0; => ;
    // Broken in Pot.arrive: tin = 0; => ;
    // Broken in Pot.arrive: meals = 0; => ;
    static void aPotIsBareAtFirst(Check check) {
        CopperStreet x = new CopperStreet();
        for (int time = 0; time < 2; time++) {
            x.sheet(6, 30);
            x.raise(0, 0);
            check.due("gauge", 6, x.potOf(0, 1));
            check.due("thickness", 6, x.potOf(0, 2));
            check.due("blows", 0, x.potOf(0, 3));
            check.due("tin", 0, x.potOf(0, 4));
            check.due("meals", 0, x.potOf(0, 5));
            x.planish(0, 30);
            x.tin(0, 4);
            x.cook(0, 2);
            x.clear();
        }
    }
}

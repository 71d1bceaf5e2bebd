/** Promise 14, sentence by sentence: reasons, their details, and what stands behind them. */
public final class ReasonEdgesTest {
    private static final int BAD = CopperStreet.BAD;
    private static final int REFUSED = CopperStreet.REFUSED;
    private static final int NOTHING = CopperStreet.NOTHING;

    public static void main(String[] args) throws ReflectiveOperationException {
        Edges.run(ReasonEdgesTest.class);
    }

    // Promise 14: "Returns the reason for which something was refused last"
    // Promise 14, Terms: "and that reasons and fault positions are kept"
    // Promise 14: "Returns the number"
    // Broken in Reasons.refuse: count = 0; => if (count > 0) { return REFUSED; }
    static void reasonIsThatOfTheLatestRefusal(Check check) {
        CopperStreet x = new CopperStreet();
        x.bars(31);
        check.reasonDue(x, 0, 2, 1);
        x.sheet(9, 11);
        x.raise(0, 0);
        check.reasonDue(x, 0, 3, 1);
        x.bars(22);
        check.reasonDue(x, 0, 2, 1);
    }

    // Promise 14: "Returns the reason for which something was refused last"
    // Broken in CopperStreet.kept: history.keep(); => history.keep(); reasons.refuse(0, 0);
    // Broken in CopperStreet.kept: return answer; => if (answer == BAD || answer == NONE) { reasons.refuse(0, 0); } return answer;
    // Broken in CopperStreet.read: faultPosition = script.reached(); => faultPosition = script.reached(); reasons.refuse(0, 0);
    static void aReasonStaysUntilTheNextRefusal(Check check) {
        CopperStreet x = new CopperStreet();
        x.bars(31);
        x.bars(1);
        check.reasonDue(x, 0, 2, 1);
        x.bars(51);
        x.cook(0, 1);
        check.reasonDue(x, 0, 2, 1);
        Check.read(x, "bars 1x");
        check.reasonDue(x, 0, 2, 1);
        Check.read(x, "bars 1");
        check.reasonDue(x, 0, 2, 1);
    }

    // Promise 14: "0 for the reason, 1 for the one behind it, 2 for the one behind that"
    // Promise 14: "one that stands behind it, or a detail"
    // Broken in Reasons.tell: depth >= count => depth >= count - 1
    // Broken in Reasons.wrap: numbers[i] = numbers[i - 1]; => ;
    // Broken in Reasons.wrap: details[i] = details[i - 1]; => ;
    static void threeReasonsStandBehindOneAnother(Check check) {
        CopperStreet x = Streets.withGoodPans(2);
        x.baker(1, 5, 10);
        check.due("read()", REFUSED, Check.read(x, "bars 1;sell 1 0"));
        check.reasonDue(x, 0, 14, 1);
        check.reasonDue(x, 1, 11, 1);
        check.reasonDue(x, 2, 13, 2);
    }

    // Promise 14: "true for the detail, false for the reason"
    // Broken in Reasons.tell: isDetail ? details[depth] : numbers[depth] => isDetail ? numbers[depth] : details[depth]
    // Broken in CopperStreet.reason: reasons.tell(depth, isDetail) => reasons.tell(depth, !isDetail)
    static void theDetailIsApartFromTheReason(Check check) {
        CopperStreet x = new CopperStreet();
        x.bars(37);
        check.due("reason(0, false)", 2, x.reason(0, false));
        check.due("reason(0, true)", 7, x.reason(0, true));
    }

    // Promise 14: "BAD if depth is not from 0 to 2"
    // Broken in CopperStreet.reason: depth < 0 => depth < -1
    // Broken in CopperStreet.reason: depth < 0 => depth <= 0
    // Broken in CopperStreet.reason: depth >= MOST_REASONS => depth > MOST_REASONS
    // Broken in CopperStreet.reason: depth >= MOST_REASONS => depth >= MOST_REASONS - 1
    static void depthIsFrom0To2(Check check) {
        CopperStreet x = Streets.withGoodPans(1);
        x.baker(1, 5, 10);
        Check.read(x, "sell 0 0");
        for (int depth : new int[] {-1, 3, Integer.MIN_VALUE, Integer.MAX_VALUE}) {
            check.due("reason(" + depth + ", false)", BAD, x.reason(depth, false));
            check.due("reason(" + depth + ", true)", BAD, x.reason(depth, true));
        }
        check.due("reason(0, false)", 14, x.reason(0, false));
        check.due("reason(2, false)", 13, x.reason(2, false));
    }

    // Promise 14, Terms: "If several codes apply, the one that is named first is returned."
    // Broken in CopperStreet.reason: return BAD; => return reasons.tell(0, false) == NOTHING ? NOTHING : BAD;
    static void aDepthIsBadWhereNothingWasRefused(Check check) {
        CopperStreet x = new CopperStreet();
        check.due("reason(-1, false)", BAD, x.reason(-1, false));
        check.due("reason(3, true)", BAD, x.reason(3, true));
    }

    // Promise 14: "NOTHING if nothing was refused"
    // Broken in Reasons: private int count = 0 => private int count = 1
    // Broken in Reasons.tell: return NOTHING; => return 0;
    static void reasonIsNothingAtFirst(Check check) {
        CopperStreet x = new CopperStreet();
        for (int depth = 0; depth < 3; depth++) {
            check.reasonDue(x, depth, NOTHING, NOTHING);
        }
        x.bars(51);
        x.bars(1);
        x.cook(0, 1);
        check.reasonDue(x, 0, NOTHING, NOTHING);
    }

    // Promise 14: "or there is none there"
    // Broken in Reasons.tell: depth >= count => depth > count
    // Broken in Reasons.refuse: count = 0; => count = Math.min(count, 1);
    static void reasonIsNothingWhereNoneStandsBehind(Check check) {
        CopperStreet x = Streets.withGoodPans(1);
        x.baker(1, 5, 10);
        Check.read(x, "sell 0 0");
        x.sell(0, 0);
        check.reasonDue(x, 1, 13, 2);
        check.reasonDue(x, 2, NOTHING, NOTHING);
        x.bars(40);
        check.reasonDue(x, 0, 2, 40 - 29);
        check.reasonDue(x, 1, NOTHING, NOTHING);
        check.reasonDue(x, 2, NOTHING, NOTHING);
    }

    // Promise 14, Terms: "Something is refused for the first that applies of the reasons that its method names, in the order in which it names them, with a detail"
    // Broken in Smith.coat: if (shop.bars < bars) => if (shop.bars < bars && pot.tin == 0)
    // Broken in Smith.coat: if (pot.tin + coats > MOST_TIN) => if (pot.tin + coats > MOST_TIN && shop.bars > 20)
    static void oneRefusalHasOneReason(Check check) {
        CopperStreet x = Streets.withSmoothPots(3);
        x.tin(2, 1);
        check.due("tin(2, 9), too much and too few", REFUSED, x.tin(2, 9));
        check.reasonDue(x, 0, 7, 10);
        check.reasonDue(x, 1, NOTHING, NOTHING);
        check.due("tin(2, 8), too few alone", REFUSED, x.tin(2, 8));
        check.reasonDue(x, 0, 8, 25);
    }

    // Promise 14, Terms: "1, there are as many as there can be: this number"
    // Broken in Smith.buySheet: reasons.refuse(AS_MANY_AS_CAN_BE, MOST_SHEETS) => reasons.refuse(AS_MANY_AS_CAN_BE, 13)
    // Broken in Smith.raisePot: reasons.refuse(AS_MANY_AS_CAN_BE, MOST_POTS) => reasons.refuse(AS_MANY_AS_CAN_BE, 17)
    // Broken in Smith.takeOrder: reasons.refuse(AS_MANY_AS_CAN_BE, MOST_ORDERS) => reasons.refuse(AS_MANY_AS_CAN_BE, 9)
    // Broken in CopperStreet: AS_MANY_AS_CAN_BE = 1 => AS_MANY_AS_CAN_BE = 0
    static void reason1TellsHowManyThereCanBe(Check check) {
        CopperStreet x = Streets.withPans(16);
        Streets.orderEight(x);
        x.raise(2, 1);
        check.reasonDue(x, 0, 1, 16);
        x.baker(1, 1, 1);
        check.reasonDue(x, 0, 1, 8);
        for (int sheet = 3; sheet < 12; sheet++) {
            x.sheet(1, 10);
        }
        x.sheet(1, 10);
        check.reasonDue(x, 0, 1, 12);
    }

    // Promise 14, Terms: "2, there are too few coins: how many are missing"
    // Broken in Smith.buySheet: gauge - shop.coins => gauge
    // Broken in Smith.buyBars: bars - shop.coins => bars
    // Broken in CopperStreet: TOO_FEW_COINS = 2 => TOO_FEW_COINS = 8
    static void reason2TellsTheMissingCoins(Check check) {
        CopperStreet x = new CopperStreet();
        x.bars(50);
        check.reasonDue(x, 0, 2, 20);
        x.bars(22);
        x.sheet(9, 20);
        check.reasonDue(x, 0, 2, 1);
    }

    // Promise 14, Terms: "3, the sheet is too small: how much of its area is missing"
    // Broken in Smith.raisePot: kind.area - sheet.area => sheet.area
    // Broken in CopperStreet: SHEET_TOO_SMALL = 3 => SHEET_TOO_SMALL = 1
    static void reason3TellsTheMissingArea(Check check) {
        CopperStreet x = new CopperStreet();
        x.sheet(1, 10);
        x.raise(0, 1);
        x.raise(0, 2);
        check.reasonDue(x, 0, 3, 18);
    }

    // Promise 14, Terms: "4, the pot is sold: its order"
    // Broken in Smith.isWorkable: reasons.refuse(POT_SOLD, pot.order) => reasons.refuse(POT_SOLD, pot.number)
    // Broken in Smith.handOver: reasons.refuse(POT_SOLD, pot.order) => reasons.refuse(POT_SOLD, orderNumber)
    // Broken in CopperStreet: POT_SOLD = 4 => POT_SOLD = 10
    static void reason4TellsTheOrder(Check check) {
        CopperStreet x = Streets.withGoodPans(3);
        x.baker(0, 1, 9);
        x.baker(1, 1, 9);
        x.sell(2, 1);
        x.planish(2, 1);
        check.reasonDue(x, 0, 4, 1);
        x.sell(2, 0);
        check.reasonDue(x, 0, 4, 1);
    }

    // Promise 14, Terms: "5, the pot is cracked: the pot"
    // Broken in Smith.isWorkable: reasons.refuse(POT_CRACKED, pot.number) => reasons.refuse(POT_CRACKED, pot.sheet)
    // Broken in CopperStreet: POT_CRACKED = 5 => POT_CRACKED = 6
    static void reason5TellsThePot(Check check) {
        CopperStreet x = Streets.withSmoothPots(1);
        x.planish(2, 6);
        x.planish(2, 1);
        check.reasonDue(x, 0, 5, 2);
    }

    // Promise 14, Terms: "6, the pot is not smooth: how many blows are missing"
    // Broken in Smith.coat: pot.blowsMissing(pot.kind.smoothBlows) => pot.blows
    // Broken in Smith.coat: pot.blowsMissing(pot.kind.smoothBlows) => pot.blowsMissing(pot.crackingBlows())
    // Broken in CopperStreet: POT_NOT_SMOOTH = 6 => POT_NOT_SMOOTH = 5
    static void reason6TellsTheMissingBlows(Check check) {
        CopperStreet x = Check.streetWithPots(1);
        x.tin(0, 1);
        check.reasonDue(x, 0, 6, 24);
        x.planish(0, 23);
        x.tin(0, 1);
        check.reasonDue(x, 0, 6, 1);
    }

    // Promise 14, Terms: "7, there would be too much tin: how thick it would be"
    // Broken in Smith.coat: reasons.refuse(TOO_MUCH_TIN, pot.tin + coats) => reasons.refuse(TOO_MUCH_TIN, pot.tin + coats - MOST_TIN)
    // Broken in CopperStreet: TOO_MUCH_TIN = 7 => TOO_MUCH_TIN = 8
    static void reason7TellsHowThickTheTinWouldBe(Check check) {
        CopperStreet x = Streets.withSmoothPots(1);
        x.tin(1, 9);
        x.tin(1, 1);
        check.reasonDue(x, 0, 7, 10);
        x.tin(1, 9);
        check.reasonDue(x, 0, 7, 18);
    }

    // Promise 14, Terms: "8, there are too few bars: how many are missing"
    // Broken in Smith.coat: reasons.refuse(TOO_FEW_BARS, bars - shop.bars) => reasons.refuse(TOO_FEW_BARS, shop.bars)
    // Broken in CopperStreet: TOO_FEW_BARS = 8 => TOO_FEW_BARS = 2
    static void reason8TellsTheMissingBars(Check check) {
        CopperStreet x = Streets.withSmoothPots(1);
        x.tin(2, 9);
        check.reasonDue(x, 0, 8, 25);
        x.tin(0, 7);
        check.reasonDue(x, 0, 8, 1);
    }

    // Promise 14, Terms: "9, the pot has no tin: the pot"
    // Broken in Smith.use: reasons.refuse(POT_WITHOUT_TIN, potNumber) => reasons.refuse(POT_WITHOUT_TIN, meals)
    // Broken in CopperStreet: POT_WITHOUT_TIN = 9 => POT_WITHOUT_TIN = 13
    static void reason9TellsThePot(Check check) {
        CopperStreet x = Streets.withSmoothPots(1);
        x.cook(2, 7);
        check.reasonDue(x, 0, 9, 2);
    }

    // Promise 14, Terms: "10, the order is filled: its pot"
    // Broken in Smith.handOver: reasons.refuse(ORDER_FILLED, order.pot) => reasons.refuse(ORDER_FILLED, potNumber)
    // Broken in Smith.handOver: reasons.refuse(ORDER_FILLED, order.pot) => reasons.refuse(ORDER_FILLED, orderNumber)
    // Broken in CopperStreet: ORDER_FILLED = 10 => ORDER_FILLED = 4
    static void reason10TellsThePot(Check check) {
        CopperStreet x = Streets.withSoldPan();
        x.sell(1, 0);
        check.reasonDue(x, 0, 10, 2);
    }

    // Promise 14, Terms: "11, the pot is not good for the order: the pot"
    // Broken in Smith.handOver: reasons.wrap(POT_NOT_GOOD, potNumber) => reasons.wrap(POT_NOT_GOOD, orderNumber)
    // Broken in CopperStreet: POT_NOT_GOOD = 11 => POT_NOT_GOOD = 12
    static void reason11TellsThePot(Check check) {
        CopperStreet x = Check.streetWithPots(1);
        x.baker(1, 1, 9);
        x.sell(2, 0);
        check.reasonDue(x, 0, 11, 2);
    }

    // Promise 14, Terms: "12, the pot is of another kind: this kind"
    // Promise 14, Terms: "The kind that is told with 12 is that of the pot."
    // Broken in Pot.detailOf: case POT_OF_OTHER_KIND: return kind.number => case POT_OF_OTHER_KIND: return wish.kind.number
    static void reason12TellsTheKindOfThePot(Check check) {
        CopperStreet x = new CopperStreet();
        x.sheet(1, 60);
        x.raise(0, 2);
        x.raise(0, 0);
        x.baker(1, 1, 9);
        x.sell(0, 0);
        check.reasonDue(x, 1, 12, 2);
        x.sell(1, 0);
        check.reasonDue(x, 1, 12, 0);
    }

    // Promise 14, Terms: "13, it has too little tin: how much is missing"
    // Broken in Pot.detailOf: wish.tinFor(this) - tin => wish.tin - tin
    // Broken in Pot.detailOf: wish.tinFor(this) - tin => wish.tinFor(this)
    // Broken in Pot.detailOf: wish.tinFor(this) - tin => Math.max(wish.tin, 3) - tin
    static void reason13TellsTheMissingTin(Check check) {
        CopperStreet x = Streets.withSmoothPots(1);
        x.baker(1, 1, 9);
        x.baker(1, 7, 9);
        x.tin(1, 2);
        x.sell(1, 0);
        check.reasonDue(x, 1, 13, 1);
        x.sell(1, 1);
        check.reasonDue(x, 1, 13, 5);
        x.cook(1, 4);
        x.sell(1, 0);
        check.reasonDue(x, 1, 13, 1);
        x.sell(1, 1);
        check.reasonDue(x, 1, 13, 7);
    }

    // Promise 14, Terms: "14, a command of a text would return a code: its number, from 0."
    // Broken in CopperStreet.refuseText: reasons.wrap(COMMAND_FAILED, number) => reasons.wrap(COMMAND_FAILED, number + 1)
    // Broken in CopperStreet.refuseText: reasons.refuse(COMMAND_FAILED, number) => reasons.refuse(COMMAND_FAILED, answer)
    // Broken in CopperStreet: COMMAND_FAILED = 14 => COMMAND_FAILED = 15
    static void reason14TellsTheNumberOfTheCommand(Check check) {
        CopperStreet x = new CopperStreet();
        Check.read(x, "bars 31");
        check.reasonDue(x, 0, 14, 0);
        Check.read(x, "bars 1;bars 1;bars 1;bars 1;bars 1;bars 1;bars 1;bars 25");
        check.reasonDue(x, 0, 14, 7);
        Check.read(x, "bars 1;hit 0 1");
        check.reasonDue(x, 0, 14, 1);
    }

    // Promise 14, Terms: "Behind 11 stands the first of 12, 5, 6 and 13 that applies."
    // Broken in Pot.lackFor: if (kind != wish.kind) => if (kind != wish.kind && !isCracked())
    // Broken in Pot.lackFor: if (kind != wish.kind) => if (kind != wish.kind && isSmooth())
    // Broken in Pot.lackFor: if (kind != wish.kind) => if (kind != wish.kind && tin >= wish.tin)
    static void behind11AnotherKindComesFirst(Check check) {
        CopperStreet x = Check.streetWithPots(1);
        x.baker(1, 1, 9);
        x.planish(2, 46);
        x.sell(2, 0);
        check.reasonDue(x, 1, 12, 2);
        x.sell(0, 0);
        check.reasonDue(x, 1, 12, 0);
    }

    // Promise 14, Terms: "Behind 11 stands the first of 12, 5, 6 and 13 that applies."
    // Broken in Pot.lackFor: if (isCracked()) => if (isCracked() && tin >= wish.tin)
    // Broken in Pot.detailOf: default: return number => default: return sheet
    static void behind11ACrackComesBeforeTheTin(Check check) {
        CopperStreet x = Check.streetWithPots(1);
        x.baker(1, 1, 9);
        x.planish(1, 22);
        x.sell(1, 0);
        check.reasonDue(x, 0, 11, 1);
        check.reasonDue(x, 1, 5, 1);
    }

    // Promise 14, Terms: "Behind 11 stands the first of 12, 5, 6 and 13 that applies."
    // Broken in Pot.lackFor: if (!isSmooth()) => if (!isSmooth() && tin >= wish.tin)
    // Broken in Pot.detailOf: return blowsMissing(kind.smoothBlows) => return blows
    static void behind11MissingBlowsComeBeforeTheTin(Check check) {
        CopperStreet x = Check.streetWithPots(1);
        x.baker(1, 1, 9);
        x.planish(1, 6);
        x.sell(1, 0);
        check.reasonDue(x, 0, 11, 1);
        check.reasonDue(x, 1, 6, 10);
    }

    // Promise 14, Terms: "Behind 14 stands the reason of the command, if it was refused, with what stands behind it."
    // Broken in CopperStreet.refuseText: return reasons.wrap(COMMAND_FAILED, number); => ;
    // Broken in CopperStreet.carryOut: history.returnTo(shop); => history.returnTo(shop); reasons.refuse(2, 0);
    static void behind14StandsTheReasonOfTheCommand(Check check) {
        CopperStreet x = Check.streetWithPots(1);
        x.baker(1, 1, 9);
        check.due("read()", REFUSED, Check.read(x, "bars 30"));
        check.reasonDue(x, 0, 14, 0);
        check.reasonDue(x, 1, 2, 1);
        check.reasonDue(x, 2, NOTHING, NOTHING);
        check.due("read()", REFUSED, Check.read(x, "hit 1 22;sell 1 0"));
        check.reasonDue(x, 0, 14, 1);
        check.reasonDue(x, 1, 11, 1);
        check.reasonDue(x, 2, 5, 1);
    }

    // Promise 14, Terms: "if it was refused"
    // Broken in CopperStreet.refuseText: return reasons.refuse(COMMAND_FAILED, number); => return reasons.wrap(COMMAND_FAILED, number);
    static void behind14NothingStandsIfTheCommandWasNotRefused(Check check) {
        CopperStreet x = new CopperStreet();
        x.bars(31);
        check.due("read() of a command that returns NONE", REFUSED, Check.read(x, "hit 0 1"));
        check.reasonDue(x, 0, 14, 0);
        check.reasonDue(x, 1, NOTHING, NOTHING);
        x.bars(31);
        check.due("read() of a command that returns BAD", REFUSED, Check.read(x, "bars 1;bars 51"));
        check.reasonDue(x, 0, 14, 1);
        check.reasonDue(x, 1, NOTHING, NOTHING);
        check.reasonDue(x, 2, NOTHING, NOTHING);
    }
}

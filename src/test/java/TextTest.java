/** Promises 12 to 14: texts, their faults, and reasons. */
public final class TextTest {
    private static final int BAD = CopperStreet.BAD;
    private static final int REFUSED = CopperStreet.REFUSED;
    private static final int NOTHING = CopperStreet.NOTHING;
    private static final Check CHECK = new Check("TextTest");

    public static void main(String[] args) {
        promise12EachCommand();
        promise12NumbersOfOneOrTwoDigits();
        promise12AllOrNone();
        promise12OneChange();
        promise12LongTexts();
        promise12And13Faults();
        promise13LatestFault();
        promise14Chains();
        promise14CodesThatAreNoRefusal();
        promise14Edges();
        CHECK.end();
    }

    private static void reasonDue(CopperStreet x, int depth, int number, int detail) {
        CHECK.due("reason(" + depth + ", false)", number, x.reason(depth, false));
        CHECK.due("reason(" + depth + ", true)", detail, x.reason(depth, true));
    }

    private static void promise12EachCommand() {
        CopperStreet x = new CopperStreet();
        x.sheet(3, 60);
        x.baker(0, 1, 41);
        CHECK.due("read raise", 1, Check.read(x, "raise 0 0"));
        CHECK.due("account(3)", 1, x.account(3));
        CHECK.due("account(14)", 0, x.account(14));
        CHECK.due("read hit", 1, Check.read(x, "hit 0 24"));
        CHECK.due("potOf(0, 3)", 24, x.potOf(0, 3));
        CHECK.due("read tin", 1, Check.read(x, "tin 0 4"));
        CHECK.due("potOf(0, 4)", 4, x.potOf(0, 4));
        CHECK.due("read cook", 1, Check.read(x, "cook 0 10"));
        CHECK.due("potOf(0, 5)", 10, x.potOf(0, 5));
        CHECK.due("read bars", 1, Check.read(x, "bars 5"));
        CHECK.due("account(1)", 13, x.account(1));
        CHECK.due("read sell", 1, Check.read(x, "sell 0 0"));
        CHECK.due("account(0)", 30 - 3 - 5 + 20, x.account(0));
        CHECK.due("account(8)", 1, x.account(8));
        CHECK.due("account(15)", 8, x.account(15));
        CHECK.due("read raise kinds", 2, Check.read(x, "raise 0 1;raise 0 2"));
        CHECK.due("potOf(1, 0)", 1, x.potOf(1, 0));
        CHECK.due("potOf(2, 0)", 2, x.potOf(2, 0));
    }

    private static void promise12NumbersOfOneOrTwoDigits() {
        CopperStreet x = new CopperStreet();
        CHECK.due("read bars 07", 1, Check.read(x, "bars 07"));
        CHECK.due("account(1)", 27, x.account(1));
        x.sheet(1, 60);
        x.sheet(1, 60);
        CHECK.due("read raise 01 1", 1, Check.read(x, "raise 01 1"));
        CHECK.due("potOf(0, 9)", 1, x.potOf(0, 9));
        for (int pot = 1; pot <= 12; pot++) {
            x.raise(pot / 7, 1);
        }
        CHECK.due("read hit 12 34", 1, Check.read(x, "hit 12 34"));
        CHECK.due("potOf(12, 3)", 34, x.potOf(12, 3));
        CHECK.due("read hit 02 09", 1, Check.read(x, "hit 02 09"));
        CHECK.due("potOf(2, 3)", 9, x.potOf(2, 3));
        CHECK.due("read hit 11 16;tin 11 2;cook 11 1", 3, Check.read(x, "hit 11 16;tin 11 2;cook 11 1"));
        CHECK.due("potOf(11, 5)", 1, x.potOf(11, 5));
        x.baker(1, 1, 9);
        CHECK.due("read sell 11 0", 1, Check.read(x, "sell 11 0"));
        CHECK.due("orderOf(0, 3)", 11, x.orderOf(0, 3));
    }

    private static void promise12AllOrNone() {
        CopperStreet x = new CopperStreet();
        x.sheet(3, 30);
        CHECK.due("read", REFUSED, Check.read(x, "raise 0 0;hit 0 30;tin 0 3;cook 0 5;bars 9;hit 1 1"));
        reasonDue(x, 0, 14, 5);
        reasonDue(x, 1, NOTHING, NOTHING);
        CHECK.due("account(3)", 0, x.account(3));
        CHECK.due("account(0)", 27, x.account(0));
        CHECK.due("account(1)", 20, x.account(1));
        CHECK.due("account(9)", 0, x.account(9));
        CHECK.due("account(10)", 0, x.account(10));
        CHECK.due("account(11)", 0, x.account(11));
        CHECK.due("account(12)", 0, x.account(12));
        CHECK.due("account(14)", 0, x.account(14));
        CHECK.due("account(15)", 1, x.account(15));
        CHECK.due("sheetOf(0, 1)", 30, x.sheetOf(0, 1));
        CHECK.due("sheetOf(0, 2)", 0, x.sheetOf(0, 2));
        CHECK.due("barsAgain()", 20, x.barsAgain());
        CHECK.due("coinsAgain()", 27, x.coinsAgain());
        x.raise(0, 1);
        x.planish(0, 16);
        x.tin(0, 3);
        x.baker(1, 1, 20);
        CHECK.due("read", REFUSED, Check.read(x, "sell 0 0;hit 0 1"));
        reasonDue(x, 0, 14, 1);
        reasonDue(x, 1, 4, 0);
        CHECK.due("potOf(0, 8)", NOTHING, x.potOf(0, 8));
        CHECK.due("orderOf(0, 3)", NOTHING, x.orderOf(0, 3));
        CHECK.due("account(13)", 0, x.account(13));
        CHECK.due("read with a fault behind", BAD, Check.read(x, "sell 0 0;hit 0 1x"));
        CHECK.due("account(8)", 0, x.account(8));
        reasonDue(x, 0, 14, 1);
        CHECK.due("account(14)", 0, x.account(14));
    }

    private static void promise12OneChange() {
        CopperStreet x = new CopperStreet();
        x.sheet(3, 40);
        CHECK.due("read", 3, Check.read(x, "raise 0 0;hit 0 24;tin 0 4"));
        CHECK.due("account(15)", 2, x.account(15));
        CHECK.due("potOf(0, 4)", 4, x.potOf(0, 4));
        CHECK.due("undo()", 1, x.undo());
        CHECK.due("account(3)", 0, x.account(3));
        CHECK.due("account(1)", 20, x.account(1));
        CHECK.due("account(2)", 1, x.account(2));
        CHECK.due("input stays away", 0, x.account(14));
        CHECK.due("read() of nothing", BAD, x.read());
        CHECK.due("fault()", 0, x.fault());
    }

    private static void promise12LongTexts() {
        CopperStreet x = new CopperStreet();
        String eight = "bars 1;bars 1;bars 1;bars 1;bars 1;bars 1;bars 1;bars 01";
        CHECK.due("read of eight", 8, Check.read(x, eight));
        CHECK.due("account(1)", 28, x.account(1));
        CHECK.due("account(15)", 1, x.account(15));
        String start = "bars 1;bars 1;bars 1;bars 1;bars 1;bars 1;bars 1;bars 1;";
        CHECK.due("read of a ninth that ends", BAD, Check.read(x, start + "bars"));
        CHECK.due("fault()", 60, x.fault());
        CHECK.due("read of a ninth with a fault", BAD, Check.read(x, start + "hix"));
        CHECK.due("fault()", 58, x.fault());
        CHECK.due("read of a ninth that is not there", BAD, Check.read(x, start));
        CHECK.due("fault()", 56, x.fault());
        CHECK.due("account(1)", 28, x.account(1));
    }

    private static void faultDue(String text, int position) {
        CopperStreet x = new CopperStreet();
        CHECK.due("read of " + text, BAD, Check.read(x, text));
        CHECK.due("fault of " + text, position, x.fault());
        CHECK.due("account(14) after " + text, 0, x.account(14));
        CHECK.due("account(15) after " + text, 0, x.account(15));
    }

    private static void promise12And13Faults() {
        faultDue("", 0);
        faultDue(" ", 0);
        faultDue("x", 0);
        faultDue("Raise 0 0", 0);
        faultDue("1", 0);
        faultDue(";", 0);
        faultDue("hix", 2);
        faultDue("hi", 2);
        faultDue("hit", 3);
        faultDue("hit ", 4);
        faultDue("hit  1 1", 4);
        faultDue("hit a", 4);
        faultDue("hit 1", 5);
        faultDue("hit 1;", 5);
        faultDue("hit 123", 6);
        faultDue("hit 12 ", 7);
        faultDue("hit 12 x", 7);
        faultDue("hit 12 345", 9);
        faultDue("hit 12 34 ", 9);
        faultDue("hit 12 34;", 10);
        faultDue("hit 12 34;;", 10);
        faultDue("hit 12 34; hit 1 1", 10);
        faultDue("hit -1 1", 4);
        faultDue("raise 0 12", 9);
        faultDue("raise 0 ", 8);
        faultDue("raise 00", 8);
        faultDue("raise 000", 8);
        faultDue("raise0", 5);
        faultDue("raize 0 0", 3);
        faultDue("tin 0 12", 7);
        faultDue("tan 0 1", 1);
        faultDue("cook 0 123", 9);
        faultDue("cool 0 1", 3);
        faultDue("sell 0 12", 8);
        faultDue("sel", 3);
        faultDue("bars 123", 7);
        faultDue("bars 1 1", 6);
        faultDue("bars ", 5);
        faultDue("bars 1,bars 1", 6);
        faultDue("bars 1;hot 1 1", 8);
        faultDue("bars 1;bars", 11);
        faultDue("bars 1~", 6);
    }

    private static void promise13LatestFault() {
        CopperStreet x = new CopperStreet();
        CHECK.due("fault()", NOTHING, x.fault());
        Check.read(x, "bars 1");
        CHECK.due("fault() after a right text", NOTHING, x.fault());
        Check.read(x, "hit 0 1");
        CHECK.due("fault() after a refused text", NOTHING, x.fault());
        Check.type(x, "zzz");
        CHECK.due("fault() before reading", NOTHING, x.fault());
        x.read();
        CHECK.due("fault()", 0, x.fault());
        Check.read(x, "bars 1;b");
        CHECK.due("fault()", 8, x.fault());
        Check.read(x, "bars 1");
        CHECK.due("fault() stays", 8, x.fault());
        x.undo();
        CHECK.due("fault() after undo", 8, x.fault());
        x.save();
        Check.read(x, "tx");
        x.restore();
        CHECK.due("fault() after restore", 1, x.fault());
        x.clear();
        CHECK.due("fault() after clear", 1, x.fault());
        x.append('a');
        CHECK.due("fault() after append", 1, x.fault());
    }

    private static void promise14Chains() {
        CopperStreet x = Check.streetWithPots(2);
        x.baker(1, 2, 9);
        CHECK.due("read", REFUSED, Check.read(x, "bars 1;sell 2 0"));
        reasonDue(x, 0, 14, 1);
        reasonDue(x, 1, 11, 2);
        reasonDue(x, 2, 12, 2);
        CHECK.due("read", REFUSED, Check.read(x, "sell 1 0"));
        reasonDue(x, 0, 14, 0);
        reasonDue(x, 1, 11, 1);
        reasonDue(x, 2, 6, 16);
        CHECK.due("read", REFUSED, Check.read(x, "hit 1 15;tin 1 1"));
        reasonDue(x, 0, 14, 1);
        reasonDue(x, 1, 6, 1);
        reasonDue(x, 2, NOTHING, NOTHING);
        CHECK.due("read", REFUSED, Check.read(x, "hit 1 16;tin 1 2;sell 1 0"));
        reasonDue(x, 0, 14, 2);
        reasonDue(x, 1, 11, 1);
        reasonDue(x, 2, 13, 1);
        CHECK.due("read", REFUSED, Check.read(x, "hit 1 28;sell 1 0"));
        reasonDue(x, 1, 11, 1);
        reasonDue(x, 2, 5, 1);
        CHECK.due("read", REFUSED, Check.read(x, "bars 29"));
        reasonDue(x, 1, 2, 1);
        CHECK.due("read", REFUSED, Check.read(x, "raise 0 1;raise 0 1;raise 0 1"));
        reasonDue(x, 0, 14, 2);
        reasonDue(x, 1, 3, 4);
        CHECK.due("read", REFUSED, Check.read(x, "cook 0 1"));
        reasonDue(x, 1, 9, 0);
        CHECK.due("sell(0, 0)", REFUSED, x.sell(0, 0));
        reasonDue(x, 0, 11, 0);
        reasonDue(x, 1, 12, 0);
        reasonDue(x, 2, NOTHING, NOTHING);
        CHECK.due("bars(29)", REFUSED, x.bars(29));
        reasonDue(x, 0, 2, 1);
        reasonDue(x, 1, NOTHING, NOTHING);
        reasonDue(x, 2, NOTHING, NOTHING);
    }

    private static void promise14CodesThatAreNoRefusal() {
        String[] texts = {"raise 1 0", "raise 0 3", "raise 9 9", "hit 3 1", "hit 0 0", "tin 3 1", "tin 0 0", "cook 3 1",
            "cook 0 00", "sell 0 1", "sell 3 0", "bars 0", "bars 51", "bars 00"};
        for (String text : texts) {
            CopperStreet x = Check.streetWithPots(2);
            x.baker(1, 2, 9);
            x.sell(1, 0);
            CHECK.due("read of " + text, REFUSED, Check.read(x, "hit 1 1;" + text));
            reasonDue(x, 0, 14, 1);
            reasonDue(x, 1, NOTHING, NOTHING);
            reasonDue(x, 2, NOTHING, NOTHING);
            CHECK.due("fault()", NOTHING, x.fault());
        }
    }

    private static void promise14Edges() {
        CopperStreet x = new CopperStreet();
        CHECK.due("reason(-1, true)", BAD, x.reason(-1, true));
        CHECK.due("reason(3, false)", BAD, x.reason(3, false));
        CHECK.due("reason(MIN, false)", BAD, x.reason(Integer.MIN_VALUE, false));
        reasonDue(x, 0, NOTHING, NOTHING);
        reasonDue(x, 2, NOTHING, NOTHING);
        x.bars(45);
        reasonDue(x, 0, 2, 15);
        x.bars(51);
        x.bars(1);
        x.potOf(0, 0);
        Check.read(x, "b");
        reasonDue(x, 0, 2, 15);
        x.undo();
        x.save();
        x.restore();
        x.clear();
        reasonDue(x, 0, 2, 15);
        CHECK.due("reason(3, false)", BAD, x.reason(3, false));
        CHECK.due("account(15)", 0, x.account(15));
    }
}

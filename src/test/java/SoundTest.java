/** Promises 18 to 28 and 39: sounds, pots by their sound, and what pots would sound like. */
public final class SoundTest {
    private static final int NONE = CopperStreet.NONE;
    private static final int BAD = CopperStreet.BAD;
    private static final int NOTHING = CopperStreet.NOTHING;
    private static final Check CHECK = new Check("SoundTest");

    public static void main(String[] args) {
        promise18And19Kettle();
        promise18And19Pan();
        promise18And19Cauldron();
        promise18And19NoPot();
        promise20IsAlike();
        promise21Alike();
        promise22Ranked();
        promise23Peal();
        promise23PealInTheShop();
        promise24Nearest();
        promise25WouldSound();
        promise26BlowsTo();
        promise27MealsTo();
        promise28BarsFor();
        promise39MeanSound();
        CHECK.end();
    }

    private static void soundDue(CopperStreet x, int pot, int sound) {
        CHECK.due("sound(" + pot + ")", sound, x.sound(pot));
        CHECK.due("soundAgain(" + pot + ")", sound, x.soundAgain(pot));
    }

    private static void promise18And19Kettle() {
        CopperStreet x = Check.streetWithPots(3);
        soundDue(x, 0, 30 + 15);
        x.planish(0, 23);
        soundDue(x, 0, 45);
        x.planish(0, 1);
        soundDue(x, 0, 47);
        x.tin(0, 4);
        soundDue(x, 0, 43);
        x.planish(0, 5);
        soundDue(x, 0, 43);
        x.planish(0, 1);
        soundDue(x, 0, 38);
        x.cook(0, 8);
        soundDue(x, 0, 40);
        x.planish(0, 12);
        soundDue(x, 0, 0);
    }

    private static void promise18And19Pan() {
        CopperStreet x = Check.streetWithPots(9);
        soundDue(x, 1, 86);
        x.planish(1, 16);
        soundDue(x, 1, 88);
        x.tin(1, 5);
        soundDue(x, 1, 78);
        x.tin(1, 4);
        soundDue(x, 1, 70);
        x.planish(1, 12);
        soundDue(x, 1, 62);
        x.planish(1, 41);
        soundDue(x, 1, 38);
        x.planish(1, 1);
        soundDue(x, 1, 0);
    }

    private static void promise18And19Cauldron() {
        CopperStreet x = Check.streetWithPots(5);
        soundDue(x, 2, 25);
        x.planish(2, 40);
        soundDue(x, 2, 27);
        x.tin(2, 1);
        soundDue(x, 2, 27);
        x.tin(2, 1);
        soundDue(x, 2, 26);
        x.tin(2, 1);
        soundDue(x, 2, 26);
        x.tin(2, 1);
        soundDue(x, 2, 25);
        x.bars(25);
        x.tin(2, 5);
        soundDue(x, 2, 23);
        x.planish(2, 24);
        soundDue(x, 2, 11);
        x.planish(2, 6);
        soundDue(x, 2, 0);
        CopperStreet y = Check.streetWithPots(1);
        soundDue(y, 2, 13);
        soundDue(y, 1, 54);
        soundDue(y, 0, 35);
    }

    private static void promise18And19NoPot() {
        CopperStreet x = Check.streetWithPots(3);
        soundDue(x, 3, NONE);
        soundDue(x, -1, NONE);
        soundDue(x, Integer.MAX_VALUE, NONE);
        soundDue(x, Integer.MIN_VALUE, NONE);
        x.planish(1, 16);
        x.tin(1, 3);
        x.baker(1, 1, 1);
        x.sell(1, 0);
        soundDue(x, 1, 58);
    }

    /** Pans 0 to 5 of gauge 1 with the sounds 56, 54, 52, 50, 0 and 54. */
    private static CopperStreet streetOfPans() {
        CopperStreet x = new CopperStreet();
        x.sheet(1, 60);
        for (int pot = 0; pot < 6; pot++) {
            x.raise(0, 1);
        }
        for (int pot = 0; pot < 4; pot++) {
            x.planish(pot, 16);
        }
        x.tin(1, 1);
        x.tin(2, 2);
        x.tin(3, 3);
        x.planish(4, 22);
        return x;
    }

    private static void promise20IsAlike() {
        CopperStreet x = streetOfPans();
        CHECK.due("isAlike(0, 1)", true, x.isAlike(0, 1));
        CHECK.due("isAlike(1, 0)", true, x.isAlike(1, 0));
        CHECK.due("isAlike(0, 2)", false, x.isAlike(0, 2));
        CHECK.due("isAlike(2, 0)", false, x.isAlike(2, 0));
        CHECK.due("isAlike(1, 5)", true, x.isAlike(1, 5));
        CHECK.due("isAlike(4, 4)", true, x.isAlike(4, 4));
        CHECK.due("isAlike(4, 0)", false, x.isAlike(4, 0));
        CHECK.due("isAlike(0, 6)", false, x.isAlike(0, 6));
        CHECK.due("isAlike(6, 0)", false, x.isAlike(6, 0));
        CHECK.due("isAlike(6, 7)", false, x.isAlike(6, 7));
        CHECK.due("isAlike(-1, -1)", false, x.isAlike(-1, -1));
        x.baker(1, 3, 1);
        x.sell(3, 0);
        CHECK.due("isAlike(3, 2), sold", true, x.isAlike(3, 2));
        CopperStreet y = new CopperStreet();
        y.sheet(7, 60);
        y.sheet(4, 60);
        y.raise(0, 0);
        y.raise(1, 1);
        CHECK.due("65 and 66 are alike", true, y.isAlike(0, 1));
        y.planish(0, 24);
        y.tin(0, 4);
        CHECK.due("63 and 66 are not alike", false, y.isAlike(0, 1));
    }

    private static void promise21Alike() {
        CHECK.due("alike() of none", 0, new CopperStreet().alike());
        CopperStreet x = streetOfPans();
        CHECK.due("alike()", 6, x.alike());
        x.baker(1, 3, 1);
        x.sell(3, 0);
        CHECK.due("alike() without the sold pot", 5, x.alike());
        x.planish(5, 22);
        CHECK.due("alike() of cracked pots too", 3, x.alike());
    }

    private static void rankedDue(CopperStreet x, int... pots) {
        for (int place = 0; place < pots.length; place++) {
            CHECK.due("ranked(" + place + ")", pots[place], x.ranked(place));
        }
        CHECK.due("ranked(" + pots.length + ")", NONE, x.ranked(pots.length));
        CHECK.due("ranked(-1)", NONE, x.ranked(-1));
        CHECK.due("ranked(MAX)", NONE, x.ranked(Integer.MAX_VALUE));
    }

    private static void promise22Ranked() {
        CopperStreet x = streetOfPans();
        rankedDue(x, 0, 1, 5, 2, 3, 4);
        x.planish(5, 16);
        rankedDue(x, 0, 5, 1, 2, 3, 4);
        x.baker(1, 3, 1);
        x.sell(3, 0);
        rankedDue(x, 0, 5, 1, 2, 4);
        rankedDue(new CopperStreet());
    }

    private static void promise23Peal() {
        CopperStreet x = streetOfPans();
        CHECK.due("peal(0)", BAD, x.peal(0));
        CHECK.due("peal(21)", BAD, x.peal(21));
        CHECK.due("peal(-5)", BAD, x.peal(-5));
        CHECK.due("peal(20) from 0 on", 1, x.peal(20));
        x.undo();
        CHECK.due("peal(1)", 1, x.peal(1));
        CHECK.due("peal(2)", 4, x.peal(2));
        CHECK.due("peal(20)", 4, x.peal(20));
        x.sheet(1, 60);
        x.raise(1, 0);
        CHECK.due("peal(14) from 35 on", 1, x.peal(14));
        CHECK.due("peal(15) from 35 on", 5, x.peal(15));
        x.raise(1, 2);
        CHECK.due("peal(20) from 13 on", 1, x.peal(20));
        x.planish(6, 24);
        x.planish(7, 40);
        CHECK.due("peal(20) from 15 on", 1, x.peal(20));
        CHECK.due("peal(0) of none", BAD, new CopperStreet().peal(0));
        CHECK.due("peal(20) of none", 0, new CopperStreet().peal(20));
    }

    private static void promise23PealInTheShop() {
        CopperStreet x = streetOfPans();
        x.undo();
        x.baker(1, 3, 1);
        x.sell(3, 0);
        CHECK.due("peal(2) without the sold pot", 3, x.peal(2));
        x.sheet(1, 60);
        x.raise(1, 2);
        x.raise(1, 0);
        x.raise(1, 0);
        CHECK.due("peal(20), 13 and 35", 1, x.peal(20));
        CopperStreet y = Check.streetWithPots(6);
        CHECK.due("peal(20), 28, 60 and 74", 1, y.peal(20));
        y.sheet(4, 60);
        y.raise(1, 0);
        CHECK.due("peal(20), 28, 50, 60 and 74", 1, y.peal(20));
        y.planish(2, 58);
        CHECK.due("peal(20), 21, 50, 60 and 74", 1, y.peal(20));
        y.sheet(2, 60);
        y.raise(2, 0);
        CHECK.due("peal(19), 21, 40, 50, 60 and 74", 5, y.peal(19));
        CHECK.due("peal(18), 21, 40, 50, 60 and 74", 1, y.peal(18));
    }

    private static void promise24Nearest() {
        CopperStreet x = streetOfPans();
        CHECK.due("nearest(-1)", BAD, x.nearest(-1));
        CHECK.due("nearest(121)", BAD, x.nearest(121));
        CHECK.due("nearest(0)", 4, x.nearest(0));
        CHECK.due("nearest(120)", 0, x.nearest(120));
        CHECK.due("nearest(54)", 1, x.nearest(54));
        CHECK.due("nearest(53) between 1 and 2", 1, x.nearest(53));
        CHECK.due("nearest(51) between 2 and 3", 2, x.nearest(51));
        CHECK.due("nearest(50)", 3, x.nearest(50));
        CHECK.due("nearest(25) between 3 and 4", 3, x.nearest(25));
        CHECK.due("nearest(24)", 4, x.nearest(24));
        x.baker(1, 3, 1);
        x.sell(3, 0);
        CHECK.due("nearest(50) without the sold pot", 2, x.nearest(50));
        CHECK.due("nearest(0) of none", NOTHING, new CopperStreet().nearest(0));
        CHECK.due("nearest(121) of none", BAD, new CopperStreet().nearest(121));
    }

    private static void promise25WouldSound() {
        CopperStreet x = Check.streetWithPots(5);
        CHECK.due("wouldSound(3, 0, 0)", NONE, x.wouldSound(3, 0, 0));
        CHECK.due("wouldSound(-1, -1, 0)", NONE, x.wouldSound(-1, -1, 0));
        CHECK.due("wouldSound(0, -1, 0)", BAD, x.wouldSound(0, -1, 0));
        CHECK.due("wouldSound(0, 100, 0)", BAD, x.wouldSound(0, 100, 0));
        CHECK.due("wouldSound(0, 0, -1)", BAD, x.wouldSound(0, 0, -1));
        CHECK.due("wouldSound(0, 0, 10)", BAD, x.wouldSound(0, 0, 10));
        CHECK.due("wouldSound(0, 0, 0)", 55, x.wouldSound(0, 0, 0));
        CHECK.due("wouldSound(0, 23, 0)", 55, x.wouldSound(0, 23, 0));
        CHECK.due("wouldSound(0, 24, 0)", 57, x.wouldSound(0, 24, 0));
        CHECK.due("wouldSound(0, 30, 9)", 43, x.wouldSound(0, 30, 9));
        CHECK.due("wouldSound(0, 53, 0)", 37, x.wouldSound(0, 53, 0));
        CHECK.due("wouldSound(0, 54, 0)", 0, x.wouldSound(0, 54, 0));
        CHECK.due("wouldSound(0, 99, 9)", 0, x.wouldSound(0, 99, 9));
        CHECK.due("wouldSound(0, 0, 9), not smooth", 46, x.wouldSound(0, 0, 9));
        CHECK.due("wouldSound(2, 40, 9)", 23, x.wouldSound(2, 40, 9));
        x.planish(1, 16);
        x.tin(1, 7);
        CHECK.due("sound(1)", 58, x.sound(1));
        CHECK.due("wouldSound(1, 0, 2)", 54, x.wouldSound(1, 0, 2));
        CHECK.due("wouldSound(1, 0, 9), 9 at most", 54, x.wouldSound(1, 0, 9));
        CHECK.due("wouldSound(1, 6, 0)", 54, x.wouldSound(1, 6, 0));
        CHECK.due("sound(1) is as it was", 58, x.sound(1));
        CHECK.due("account(1)", 6, x.account(1));
    }

    private static void promise26BlowsTo() {
        CopperStreet x = Check.streetWithPots(2);
        CHECK.due("blowsTo(3, 0)", NONE, x.blowsTo(3, 0));
        CHECK.due("blowsTo(-1, 5)", NONE, x.blowsTo(-1, 5));
        CHECK.due("blowsTo(0, 2)", BAD, x.blowsTo(0, 2));
        CHECK.due("blowsTo(0, -1)", BAD, x.blowsTo(0, -1));
        int[] smooth = {24, 16, 40};
        for (int pot = 0; pot < 3; pot++) {
            CHECK.due("blowsTo(" + pot + ", 0)", smooth[pot], x.blowsTo(pot, 0));
            CHECK.due("blowsTo(" + pot + ", 1)", smooth[pot] + 12, x.blowsTo(pot, 1));
        }
        x.planish(0, 20);
        CHECK.due("blowsTo(0, 0)", 4, x.blowsTo(0, 0));
        CHECK.due("blowsTo(0, 1)", 16, x.blowsTo(0, 1));
        x.planish(0, 15);
        CHECK.due("blowsTo(0, 0)", 0, x.blowsTo(0, 0));
        CHECK.due("blowsTo(0, 1)", 1, x.blowsTo(0, 1));
        x.planish(0, 50);
        CHECK.due("blowsTo(0, 0)", 0, x.blowsTo(0, 0));
        CHECK.due("blowsTo(0, 1)", 0, x.blowsTo(0, 1));
        CHECK.due("blowsTo(0, 2)", BAD, x.blowsTo(0, 2));
    }

    private static void promise27MealsTo() {
        CopperStreet x = Check.streetWithPots(3);
        CHECK.due("mealsTo(3)", NONE, x.mealsTo(3));
        CHECK.due("mealsTo(-1)", NONE, x.mealsTo(-1));
        CHECK.due("mealsTo(0)", 0, x.mealsTo(0));
        x.bars(20);
        x.planish(0, 24);
        x.planish(1, 16);
        x.planish(2, 40);
        x.tin(0, 3);
        x.tin(1, 3);
        x.tin(2, 3);
        CHECK.due("mealsTo(0)", 12, x.mealsTo(0));
        CHECK.due("mealsTo(1)", 6, x.mealsTo(1));
        CHECK.due("mealsTo(2)", 18, x.mealsTo(2));
        x.cook(2, 7);
        CHECK.due("mealsTo(2)", 11, x.mealsTo(2));
        x.cook(2, 10);
        CHECK.due("mealsTo(2)", 1, x.mealsTo(2));
        x.cook(2, 1);
        CHECK.due("mealsTo(2)", 0, x.mealsTo(2));
        x.cook(1, 99);
        CHECK.due("mealsTo(1)", 0, x.mealsTo(1));
        x.tin(1, 1);
        CHECK.due("mealsTo(1)", 2, x.mealsTo(1));
    }

    private static void promise28BarsFor() {
        CopperStreet x = Check.streetWithPots(3);
        CHECK.due("barsFor(3, 1)", NONE, x.barsFor(3, 1));
        CHECK.due("barsFor(-1, 0)", NONE, x.barsFor(-1, 0));
        CHECK.due("barsFor(0, 0)", BAD, x.barsFor(0, 0));
        CHECK.due("barsFor(0, 10)", BAD, x.barsFor(0, 10));
        CHECK.due("barsFor(0, MIN)", BAD, x.barsFor(0, Integer.MIN_VALUE));
        CHECK.due("barsFor(0, 1)", 3, x.barsFor(0, 1));
        CHECK.due("barsFor(0, 9)", 27, x.barsFor(0, 9));
        CHECK.due("barsFor(1, 1)", 2, x.barsFor(1, 1));
        CHECK.due("barsFor(1, 9)", 18, x.barsFor(1, 9));
        CHECK.due("barsFor(2, 1)", 5, x.barsFor(2, 1));
        CHECK.due("barsFor(2, 7)", 35, x.barsFor(2, 7));
    }

    private static void promise39MeanSound() {
        CHECK.due("meanSound() of none", 0.0, new CopperStreet().meanSound());
        CopperStreet x = streetOfPans();
        CHECK.due("meanSound()", (float) 266 / (float) 6, x.meanSound());
        x.baker(1, 3, 1);
        x.sell(3, 0);
        CHECK.due("meanSound() without the sold pot", (float) 216 / (float) 5, x.meanSound());
        CopperStreet y = new CopperStreet();
        y.sheet(1, 10);
        y.raise(0, 1);
        CHECK.due("meanSound() of one", 54.0, y.meanSound());
        y.planish(0, 16);
        y.tin(0, 3);
        y.baker(1, 3, 1);
        y.sell(0, 0);
        CHECK.due("meanSound() of sold ones alone", 0.0, y.meanSound());
    }
}

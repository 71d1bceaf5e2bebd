/** Promises 18 to 28 and 39, sentence by sentence: sounds, pots by their sound, and what is still missing. */
public final class SoundEdgesTest {
    private static final int NONE = CopperStreet.NONE;
    private static final int BAD = CopperStreet.BAD;
    private static final int NOTHING = CopperStreet.NOTHING;
    /** In a street with three pots. */
    private static final int[] NO_POTS = {-1, 3, Integer.MIN_VALUE, Integer.MAX_VALUE};
    private static final int[] SMOOTH = {24, 16, 40};

    public static void main(String[] args) throws ReflectiveOperationException {
        Edges.run(SoundEdgesTest.class);
    }

    private static void soundDue(Check check, CopperStreet x, int pot, int sound) {
        check.due("sound(" + pot + ")", sound, x.sound(pot));
        check.due("soundAgain(" + pot + ")", sound, x.soundAgain(pot));
    }

    // Promise 18, Terms: "A kettle sounds 30, 5 more for each of its thickness, and 1 less for each of its tin"
    // Promise 18: "Returns the sound"
    // Broken in Kind: 12, 4, 30, 5, 2) => 12, 4, 31, 5, 2)
    // Broken in Kind: 12, 4, 30, 5, 2) => 12, 4, 30, 4, 2)
    // Broken in Kind: 12, 4, 30, 5, 2) => 12, 4, 30, 5, 1)
    static void aKettleSounds(Check check) {
        check.due("of gauge 1", 35, Check.streetWithPots(1).sound(0));
        CopperStreet x = Check.streetWithPots(9);
        check.due("of gauge 9", 75, x.sound(0));
        x.planish(0, 24);
        x.bars(21);
        x.tin(0, 1);
        check.due("smooth, with 1 of tin", 77 - 1, x.sound(0));
        x.tin(0, 8);
        check.due("smooth, with 9 of tin", 77 - 9, x.sound(0));
    }

    // Promise 18, Terms: "a pan 50, 4 more for each of its thickness, and 2 less for each of its tin"
    // Broken in Kind: 8, 2, 50, 4, 4) => 8, 2, 51, 4, 4)
    // Broken in Kind: 8, 2, 50, 4, 4) => 8, 2, 50, 5, 4)
    // Broken in Kind: 8, 2, 50, 4, 4) => 8, 2, 50, 4, 2)
    static void aPanSounds(Check check) {
        check.due("of gauge 1", 54, Check.streetWithPots(1).sound(1));
        CopperStreet x = Check.streetWithPots(9);
        check.due("of gauge 9", 86, x.sound(1));
        x.planish(1, 16);
        x.tin(1, 1);
        check.due("smooth, with 1 of tin", 88 - 2, x.sound(1));
        x.tin(1, 8);
        check.due("smooth, with 9 of tin", 88 - 18, x.sound(1));
    }

    // Promise 18, Terms: "a cauldron 10, 3 more for each of its thickness, and 1 less for each 2 of its tin."
    // Promise 18, Terms: "divisions are rounded down"
    // Broken in Kind: 20, 6, 10, 3, 1) => 20, 6, 11, 3, 1)
    // Broken in Kind: 20, 6, 10, 3, 1) => 20, 6, 10, 2, 1)
    // Broken in Kind: 20, 6, 10, 3, 1) => 20, 6, 10, 3, 2)
    // Broken in Pot.ringWith: kind.halvesByTin * allTin / 2 => (kind.halvesByTin * allTin + 1) / 2
    static void aCauldronSounds(Check check) {
        check.due("of gauge 1", 13, Check.streetWithPots(1).sound(2));
        CopperStreet x = Check.streetWithPots(9);
        check.due("of gauge 9", 37, x.sound(2));
        x.planish(2, 40);
        x.bars(21);
        x.tin(2, 1);
        check.due("smooth, with 1 of tin", 39, x.sound(2));
        x.tin(2, 1);
        check.due("smooth, with 2 of tin", 38, x.sound(2));
        x.tin(2, 1);
        check.due("smooth, with 3 of tin", 38, x.sound(2));
        x.tin(2, 5);
        check.due("smooth, with 8 of tin", 35, x.sound(2));
    }

    // Promise 18, Terms: "If it is smooth, each sounds 2 more"
    // Broken in CopperStreet: SMOOTH_SOUNDS_MORE = 2 => SMOOTH_SOUNDS_MORE = 1
    // Broken in Pot.ringWith: allBlows >= kind.smoothBlows ? => allBlows > kind.smoothBlows ?
    // Broken in Pot.ringWith: allBlows >= kind.smoothBlows ? => allBlows + 1 >= kind.smoothBlows ?
    static void aSmoothPotSounds2More(Check check) {
        CopperStreet x = Check.streetWithPots(2);
        int[] bare = {40, 58, 16};
        for (int pot = 0; pot < 3; pot++) {
            x.planish(pot, SMOOTH[pot] - 1);
            check.due("with one blow missing, pot " + pot, bare[pot], x.sound(pot));
            x.planish(pot, 1);
            check.due("just smooth, pot " + pot, bare[pot] + 2, x.sound(pot));
        }
    }

    // Promise 18, Terms: "if it is cracked, 0."
    // Broken in Pot.ringWith: return 0; => return kind.bareSound;
    // Broken in Pot.ringWith: thickness == 0 => thickness == 1
    static void aCrackedPotSounds0(Check check) {
        CopperStreet x = Streets.withSmoothPots(1);
        int[] sounds = {37, 56, 15};
        for (int pot = 0; pot < 3; pot++) {
            x.planish(pot, 5);
            check.due("just not cracked, pot " + pot, sounds[pot], x.sound(pot));
            x.planish(pot, 1);
            check.due("cracked, pot " + pot, 0, x.sound(pot));
        }
    }

    // Promise 18: "Returns the sound of a pot."
    // Promise 18, Terms: "What is told of a pot that is sold stays as it was."
    // Broken in CopperStreet.sound: heard == null ? NONE => heard == null || heard.isSold() ? NONE
    static void aSoldPotSoundsAsItDid(Check check) {
        CopperStreet x = Streets.withSoldPan();
        check.due("sound(2)", 50, x.sound(2));
    }

    // Promise 18: "NONE if there is no such pot"
    // Broken in Shop.potAt: number < potCount => number <= potCount
    // Broken in Shop.potAt: number >= 0 && => true &&
    // Broken in CopperStreet.sound: ? NONE => ? NOTHING
    static void noPotHasNoSound(Check check) {
        CopperStreet x = Check.streetWithPots(2);
        for (int pot : NO_POTS) {
            check.due("sound(" + pot + ")", NONE, x.sound(pot));
        }
        check.due("sound(2)", 16, x.sound(2));
        check.due("sound(0) in a new street", NONE, new CopperStreet().sound(0));
    }

    // Promise 19: "Returns the same by a second way"
    // Promise 19: "from the bare sound of its kind on, step by step of its thickness and of its tin"
    // Promise 19: "Returns the sound"
    // Broken in Pot.ringByStep: step < thickness => step < thickness - 1
    // Broken in Pot.ringByStep: step < tin => step < tin - 1
    // Broken in Pot.ringByStep: halves >= 2 => halves >= 1
    static void theSecondWayTellsTheSame(Check check) {
        for (int gauge = 1; gauge < 10; gauge++) {
            CopperStreet x = Streets.withSmoothPots(gauge);
            soundDue(check, x, 0, 32 + 5 * gauge);
            soundDue(check, x, 1, 52 + 4 * gauge);
            soundDue(check, x, 2, 12 + 3 * gauge);
            x.tin(0, 1);
            soundDue(check, x, 0, 31 + 5 * gauge);
            x.tin(1, 1);
            soundDue(check, x, 1, 50 + 4 * gauge);
            x.tin(2, 3);
            soundDue(check, x, 2, 11 + 3 * gauge);
        }
    }

    // Promise 19, Terms: "If it is smooth, each sounds 2 more; if it is cracked, 0."
    // Broken in Pot.ringByStep: if (thickness == 0) => if (thickness == 0 && tin > 0)
    // Broken in Pot.ringByStep: isSmooth() ? => isSmooth() && tin > 0 ?
    static void theSecondWayOfSmoothAndCrackedPots(Check check) {
        CopperStreet x = Check.streetWithPots(1);
        soundDue(check, x, 1, 54);
        x.planish(1, 16);
        soundDue(check, x, 1, 56);
        x.planish(1, 6);
        soundDue(check, x, 1, 0);
    }

    // Promise 19: "NONE if there is no such pot"
    // Broken in Shop.potAt: number < potCount => number <= potCount
    // Broken in Shop.potAt: number >= 0 && => true &&
    // Broken in CopperStreet.soundAgain: ? NONE => ? NOTHING
    static void noPotHasNoSoundByTheSecondWay(Check check) {
        CopperStreet x = Check.streetWithPots(2);
        for (int pot : NO_POTS) {
            check.due("soundAgain(" + pot + ")", NONE, x.soundAgain(pot));
        }
        check.due("soundAgain(2)", 16, x.soundAgain(2));
    }

    /** Pans 0, 1 and 2 that sound 56, 54 and 52, and a kettle 3 that sounds 45. */
    private static CopperStreet streetOfFourSounds() {
        CopperStreet x = new CopperStreet();
        x.sheet(1, 60);
        x.sheet(3, 60);
        for (int pot = 0; pot < 3; pot++) {
            x.raise(0, 1);
            x.planish(pot, 16);
        }
        x.tin(1, 1);
        x.tin(2, 2);
        x.raise(1, 0);
        return x;
    }

    // Promise 20: "Returns whether two pots ring alike."
    // Promise 20, Terms: "Two pots ring alike if their sounds differ by 2 or less."
    // Broken in CopperStreet: ALIKE_WITHIN = 2 => ALIKE_WITHIN = 1
    // Broken in CopperStreet: ALIKE_WITHIN = 2 => ALIKE_WITHIN = 3
    // Broken in CopperStreet.ringAlike: Math.abs(one - other) => one - other
    static void potsRingAlikeWithin2(Check check) {
        CopperStreet x = new CopperStreet();
        x.sheet(7, 12);
        x.sheet(4, 10);
        x.raise(0, 0);
        x.raise(1, 1);
        check.due("65 and 66", true, x.isAlike(0, 1));
        check.due("66 and 65", true, x.isAlike(1, 0));
        x.planish(1, 16);
        check.due("65 and 68", false, x.isAlike(0, 1));
        check.due("68 and 65", false, x.isAlike(1, 0));
        x.planish(0, 24);
        check.due("67 and 68", true, x.isAlike(0, 1));
        x.tin(0, 1);
        check.due("66 and 68", true, x.isAlike(0, 1));
        check.due("68 and 66", true, x.isAlike(1, 0));
    }

    // Promise 20, Terms: "if their sounds differ by 2 or less"
    // Broken in CopperStreet.isAlike: one != null && => one != null && one != two &&
    static void aPotRingsLikeItself(Check check) {
        check.due("isAlike(0, 0)", true, Check.streetWithPots(2).isAlike(0, 0));
    }

    // Promise 20, Terms: "if it is cracked, 0."
    // Broken in CopperStreet.isAlike: one != null && => one != null && !one.isCracked() &&
    static void crackedPotsRingAlike(Check check) {
        CopperStreet x = Streets.withSmoothPots(1);
        x.planish(0, 6);
        x.planish(1, 6);
        check.due("isAlike(0, 1)", true, x.isAlike(0, 1));
    }

    // Promise 20, Terms: "What is told of a pot that is sold stays as it was."
    // Broken in CopperStreet.isAlike: one != null && => one != null && !one.isSold() &&
    static void aSoldPotRingsAlikeAsItDid(Check check) {
        CopperStreet x = Streets.withSoldPan();
        check.due("isAlike(2, 0)", true, x.isAlike(2, 0));
        check.due("isAlike(2, 2)", true, x.isAlike(2, 2));
    }

    // Promise 20: "Returns whether they do, false if there is no such pot"
    // Broken in Shop.potAt: number < potCount => number <= potCount
    // Broken in Shop.potAt: number >= 0 && => true &&
    // Broken in CopperStreet.isAlike: return one != null && => if (one == null && two == null) { return true; } return one != null &&
    static void noPotRingsAlike(Check check) {
        CopperStreet x = Streets.withPans(3);
        x.planish(0, 22);
        for (int pot : NO_POTS) {
            check.due("isAlike(" + pot + ", 0)", false, x.isAlike(pot, 0));
            check.due("isAlike(0, " + pot + ")", false, x.isAlike(0, pot));
            check.due("isAlike(" + pot + ", " + pot + ")", false, x.isAlike(pot, pot));
        }
        check.due("isAlike(1, 2)", true, x.isAlike(1, 2));
    }

    // Promise 21: "Returns how many pairs of pots in the shop ring alike."
    // Broken in Chimes.pairs: j < i; => j < size;
    // Broken in Chimes.pairs: j < i; => j <= i;
    // Broken in Chimes.pairs: j < i; => j < i - 1;
    static void eachPairCountsOnce(Check check) {
        check.due("alike() of pans alone", 3, Streets.withPans(3).alike());
        check.due("alike() of 56, 54, 52 and 45", 2, streetOfFourSounds().alike());
        check.due("alike() of as many as there can be", 120, Streets.withPans(16).alike());
    }

    // Promise 21: "pots in the shop"
    // Promise 21, Terms: "A pot in the shop is one that is not sold."
    // Broken in Chimes.listen: pot.isSold() ? NOT_IN_SHOP : pot.ring() => pot.ring()
    // Broken in Chimes.pairs: sounds[i] >= 0 && sounds[j] >= 0 && => sounds[i] >= 0 &&
    // Broken in Chimes.pairs: sounds[i] >= 0 && sounds[j] >= 0 && => sounds[j] >= 0 &&
    static void aSoldPotMakesNoPair(Check check) {
        CopperStreet x = Streets.withGoodPans(3);
        x.baker(1, 1, 9);
        x.sell(0, 0);
        check.due("alike() of 50 and 50", 1, x.alike());
        x.planish(1, 6);
        check.due("alike() of 0 and 50", 0, x.alike());
        x.planish(2, 6);
        check.due("alike() of 0 and 0", 1, x.alike());
        CopperStreet y = Streets.withSoldPan();
        y.planish(0, 6);
        check.due("alike() of 0 and 50, where the last pot is sold", 0, y.alike());
    }

    // Promise 21: "Returns how many"
    // Broken in Chimes.pairs: int pairs = 0; => int pairs = size == 0 ? NOTHING : 0;
    static void alikeIs0WithoutPots(Check check) {
        check.due("alike() in a new street", 0, new CopperStreet().alike());
        CopperStreet x = Streets.withPans(1);
        check.due("alike() of one pot", 0, x.alike());
    }

    // Promise 22: "Returns a pot in the shop by its sound, the highest first"
    // Promise 22: "the place, from 0"
    // Promise 22: "Returns the pot"
    // Broken in Chimes.aheadOf: sounds[i] > sounds[pot] => sounds[i] < sounds[pot]
    // Broken in Chimes.atPlace: aheadOf(i) == place => aheadOf(i) + 1 == place
    static void theHighestSoundIsFirst(Check check) {
        CopperStreet x = Check.streetWithPots(2);
        check.due("ranked(0)", 1, x.ranked(0));
        check.due("ranked(1)", 0, x.ranked(1));
        check.due("ranked(2)", 2, x.ranked(2));
    }

    // Promise 22: "of several the lowest pot"
    // Broken in Chimes.aheadOf: sounds[i] == sounds[pot] && i < pot => sounds[i] == sounds[pot] && i > pot
    static void theLowestOfSeveralIsFirst(Check check) {
        CopperStreet x = Streets.withPans(3);
        x.planish(2, 16);
        check.due("ranked(0)", 2, x.ranked(0));
        check.due("ranked(1)", 0, x.ranked(1));
        check.due("ranked(2)", 1, x.ranked(2));
    }

    // Promise 22: "a pot in the shop"
    // Promise 22, Terms: "A pot in the shop is one that is not sold."
    // Broken in Chimes.listen: pot.isSold() ? NOT_IN_SHOP : pot.ring() => pot.ring()
    // Broken in Chimes.atPlace: sounds[i] >= 0 && => true &&
    static void aSoldPotHasNoPlace(Check check) {
        CopperStreet x = Streets.withSoldPan();
        check.due("ranked(0)", 0, x.ranked(0));
        check.due("ranked(1)", 1, x.ranked(1));
        check.due("ranked(2)", NONE, x.ranked(2));
        x.planish(0, 6);
        check.due("ranked(1) of a cracked pot", 0, x.ranked(1));
    }

    // Promise 22: "NONE if there is no such place"
    // Broken in Chimes.atPlace: return NONE; => return NOTHING;
    // Broken in Chimes.atPlace: aheadOf(i) == place => aheadOf(i) == Math.max(place, 0)
    static void beyondTheLastPlaceIsNone(Check check) {
        CopperStreet x = Streets.withPans(2);
        check.due("ranked(-1)", NONE, x.ranked(-1));
        check.due("ranked(2)", NONE, x.ranked(2));
        check.due("ranked(MIN)", NONE, x.ranked(Integer.MIN_VALUE));
        check.due("ranked(MAX)", NONE, x.ranked(Integer.MAX_VALUE));
        check.due("ranked(1)", 1, x.ranked(1));
        check.due("ranked(0) in a new street", NONE, new CopperStreet().ranked(0));
        CopperStreet y = Streets.withPans(16);
        check.due("ranked(15) of 16", 15, y.ranked(15));
        check.due("ranked(16) of 16", NONE, y.ranked(16));
    }

    /** Pots with these sounds: 15 (a cauldron), 35 (a kettle), 54 (a pan). */
    private static CopperStreet streetOfSteps() {
        CopperStreet x = Check.streetWithPots(1);
        x.planish(2, 40);
        return x;
    }

    // Promise 23: "each with a sound that is higher by 1 to step than the one before"
    // Broken in Chimes.chain: next - last > step => next - last >= step
    // Broken in Chimes.chain: next - last > step => next - last > step + 1
    static void theNextSoundIsHigherByStepAtMost(Check check) {
        CopperStreet x = streetOfSteps();
        check.due("peal(20) of 15, 35 and 54", 3, x.peal(20));
        check.due("peal(19) of 15, 35 and 54", 1, x.peal(19));
        x.planish(1, 16);
        x.planish(0, 24);
        check.due("peal(20) of 15, 37 and 56", 1, x.peal(20));
    }

    // Promise 23: "higher by 1 to step than the one before"
    // Broken in Chimes.lowestAbove: sounds[i] > sound => sounds[i] >= sound
    static void thePealLeavesOutEqualSounds(Check check) {
        CopperStreet x = Streets.withPans(3);
        check.due("peal(20) of 54, 54 and 54", 1, x.peal(20));
        x.planish(1, 16);
        check.due("peal(20) of 54, 56 and 54", 2, x.peal(20));
        check.due("peal(2) of 54, 56 and 54", 2, x.peal(2));
        check.due("peal(1) of 54, 56 and 54", 1, x.peal(1));
    }

    // Promise 23: "from the lowest sound of them on"
    // Broken in Chimes.chain: int last = lowestAbove(NOT_IN_SHOP); => int last = lowestAbove(lowestAbove(NOT_IN_SHOP));
    static void thePealBeginsWithTheLowestSound(Check check) {
        CopperStreet x = Check.streetWithPots(3);
        check.due("peal(17) of 19, 45 and 62", 1, x.peal(17));
        x.planish(0, 42);
        check.due("peal(20) of 0, 19 and 62", 2, x.peal(20));
        check.due("peal(19) of 0, 19 and 62", 2, x.peal(19));
        check.due("peal(18) of 0, 19 and 62", 1, x.peal(18));
    }

    // Promise 23: "Returns how many pots in the shop ring one behind the other at most"
    // Broken in Chimes.lowestAbove: sounds[i] < lowest => sounds[i] > lowest
    // Broken in Chimes.chain: return size; => return size - 1;
    static void thePealIsTheLongest(Check check) {
        CopperStreet x = streetOfFourSounds();
        check.due("peal(20) of 45, 52, 54 and 56", 4, x.peal(20));
        check.due("peal(7) of 45, 52, 54 and 56", 4, x.peal(7));
        check.due("peal(6) of 45, 52, 54 and 56", 1, x.peal(6));
    }

    // Promise 23: "pots in the shop"
    // Promise 23, Terms: "A pot in the shop is one that is not sold."
    // Broken in Chimes.listen: pot.isSold() ? NOT_IN_SHOP : pot.ring() => pot.ring()
    static void aSoldPotIsNotInThePeal(Check check) {
        CopperStreet x = Streets.withGoodPans(3);
        x.tin(0, 1);
        x.baker(1, 3, 9);
        check.due("peal(2) of 48, 50 and 50", 2, x.peal(2));
        x.sell(0, 0);
        check.due("peal(2) of 50 and 50", 1, x.peal(2));
    }

    // Promise 23: "the step, from 1 to 20"
    // Promise 23: "BAD if the step is out of range"
    // Broken in CopperStreet.peal: step < 1 => step < 0
    // Broken in CopperStreet.peal: step < 1 => step < 2
    // Broken in CopperStreet: MOST_STEP = 20 => MOST_STEP = 19
    // Broken in CopperStreet: MOST_STEP = 20 => MOST_STEP = 21
    static void theStepIsFrom1To20(Check check) {
        CopperStreet x = Streets.withPans(1);
        check.due("peal(0)", BAD, x.peal(0));
        check.due("peal(21)", BAD, x.peal(21));
        check.due("peal(MIN)", BAD, x.peal(Integer.MIN_VALUE));
        check.due("peal(MAX)", BAD, x.peal(Integer.MAX_VALUE));
        check.due("peal(1)", 1, x.peal(1));
        check.due("peal(20)", 1, x.peal(20));
        check.due("peal(0) in a new street", BAD, new CopperStreet().peal(0));
    }

    // Promise 23: "Returns how many"
    // Broken in Chimes.chain: return 0; => return 1;
    static void thePealIs0WithoutPots(Check check) {
        check.due("peal(20) in a new street", 0, new CopperStreet().peal(20));
        CopperStreet x = Streets.withGoodPans(1);
        x.baker(1, 1, 9);
        x.sell(0, 0);
        check.due("peal(20) with all pots sold", 0, x.peal(20));
    }

    // Promise 24: "Returns the pot in the shop whose sound is nearest to a sound"
    // Promise 24: "Returns the pot"
    // Broken in Chimes.closest: Math.abs(sounds[i] - sound) < Math.abs(sounds[closest] - sound) => sounds[i] < sounds[closest]
    // Broken in Chimes.closest: Math.abs(sounds[i] - sound) < => Math.abs(sounds[i] - sound) >
    static void nearestIsAboveOrBelow(Check check) {
        CopperStreet x = streetOfSteps();
        check.due("nearest(24) of 15, 35 and 54", 2, x.nearest(24));
        check.due("nearest(26) of 15, 35 and 54", 0, x.nearest(26));
        check.due("nearest(44) of 15, 35 and 54", 0, x.nearest(44));
        check.due("nearest(45) of 15, 35 and 54", 1, x.nearest(45));
        check.due("nearest(120) of 15, 35 and 54", 1, x.nearest(120));
        check.due("nearest(0) of 15, 35 and 54", 2, x.nearest(0));
    }

    // Promise 24: "of several the lowest one"
    // Broken in Chimes.closest: Math.abs(sounds[i] - sound) < => Math.abs(sounds[i] - sound) <=
    static void nearestIsTheLowestOfSeveral(Check check) {
        CopperStreet x = streetOfSteps();
        check.due("nearest(25) of 15, 35 and 54", 0, x.nearest(25));
        check.due("nearest(54) of three pans", 0, Streets.withPans(3).nearest(54));
        check.due("nearest(53) of three pans", 0, Streets.withPans(3).nearest(53));
    }

    // Promise 24: "the pot in the shop"
    // Promise 24, Terms: "A pot in the shop is one that is not sold."
    // Broken in Chimes.listen: pot.isSold() ? NOT_IN_SHOP : pot.ring() => pot.ring()
    // Broken in Chimes.closest: sounds[i] >= 0 && ( => (
    static void nearestIsNoSoldPot(Check check) {
        CopperStreet x = Streets.withGoodPans(2);
        x.tin(0, 1);
        x.baker(1, 4, 9);
        x.sell(0, 0);
        check.due("nearest(48)", 1, x.nearest(48));
        check.due("nearest(0)", 1, x.nearest(0));
    }

    // Promise 24, Terms: "if it is cracked, 0."
    // Broken in Chimes.closest: sounds[i] >= 0 && => sounds[i] > 0 &&
    static void aCrackedPotIsNearestTo0(Check check) {
        CopperStreet x = Streets.withPans(2);
        x.planish(1, 22);
        check.due("nearest(0) of 54 and 0", 1, x.nearest(0));
        check.due("nearest(27) of 54 and 0", 0, x.nearest(27));
        check.due("nearest(26) of 54 and 0", 1, x.nearest(26));
    }

    // Promise 24: "the sound, from 0 to 120"
    // Promise 24: "BAD if the sound is out of range"
    // Broken in CopperStreet.nearest: sound < 0 => sound < -1
    // Broken in CopperStreet.nearest: sound < 0 => sound <= 0
    // Broken in CopperStreet: MOST_SOUND = 120 => MOST_SOUND = 119
    // Broken in CopperStreet: MOST_SOUND = 120 => MOST_SOUND = 121
    static void theSoundIsFrom0To120(Check check) {
        CopperStreet x = Streets.withPans(1);
        check.due("nearest(-1)", BAD, x.nearest(-1));
        check.due("nearest(121)", BAD, x.nearest(121));
        check.due("nearest(MIN)", BAD, x.nearest(Integer.MIN_VALUE));
        check.due("nearest(MAX)", BAD, x.nearest(Integer.MAX_VALUE));
        check.due("nearest(0)", 0, x.nearest(0));
        check.due("nearest(120)", 0, x.nearest(120));
    }

    // Promise 24: "NOTHING if there is none"
    // Broken in Chimes.closest: int closest = NOTHING => int closest = NONE
    static void nearestIsNothingWithoutPots(Check check) {
        check.due("nearest(50) in a new street", NOTHING, new CopperStreet().nearest(50));
        CopperStreet x = Streets.withGoodPans(1);
        x.baker(1, 1, 9);
        x.sell(0, 0);
        check.due("nearest(50) with all pots sold", NOTHING, x.nearest(50));
    }

    // Promise 24, Terms: "If several codes apply, the one that is named first is returned."
    // Broken in CopperStreet.nearest: return BAD; => return shop.potCount == 0 ? NOTHING : BAD;
    static void nearestIsBadBeforeItIsNothing(Check check) {
        check.due("nearest(121) in a new street", BAD, new CopperStreet().nearest(121));
    }

    // Promise 25: "Returns the sound that a pot would have with so many blows and coats of tin more"
    // Promise 25: "Returns the sound"
    // Broken in CopperStreet.wouldSound: heard.blows + blows => blows
    // Broken in CopperStreet.wouldSound: heard.tin + coats => coats
    static void wouldSoundAddsToWhatThereIs(Check check) {
        CopperStreet x = Check.streetWithPots(3);
        x.planish(1, 10);
        check.due("wouldSound(1, 5, 0), one blow missing", 62, x.wouldSound(1, 5, 0));
        check.due("wouldSound(1, 6, 0), just smooth", 64, x.wouldSound(1, 6, 0));
        x.planish(1, 6);
        x.tin(1, 2);
        check.due("wouldSound(1, 5, 1)", 58, x.wouldSound(1, 5, 1));
        check.due("wouldSound(1, 6, 1), thinner", 54, x.wouldSound(1, 6, 1));
        check.due("wouldSound(1, 18, 0), cracked", 0, x.wouldSound(1, 18, 0));
        check.due("sound(1) is as it was", 60, x.sound(1));
        check.due("changes", 7, x.account(15));
    }

    // Promise 25: "whatever bars there are"
    // Broken in CopperStreet.wouldSound: heard.tin + coats => heard.tin + (heard.kind.barsOf(coats) > shop.bars ? 0 : coats)
    static void wouldSoundAsksForNoBars(Check check) {
        CopperStreet x = Streets.withSmoothPots(3);
        x.tin(1, 9);
        check.due("bars", 2, x.account(1));
        check.due("wouldSound(0, 0, 9)", 47 - 9, x.wouldSound(0, 0, 9));
    }

    // Promise 25: "with 9 of tin at most"
    // Broken in CopperStreet.wouldSound: Math.min(heard.tin + coats, MOST_TIN) => heard.tin + coats
    // Broken in CopperStreet.wouldSound: Math.min(heard.tin + coats, MOST_TIN) => Math.min(heard.tin + coats, MOST_TIN - 1)
    static void wouldSoundHas9OfTinAtMost(Check check) {
        CopperStreet x = Streets.withSmoothPots(3);
        x.tin(1, 7);
        check.due("wouldSound(1, 0, 1)", 64 - 16, x.wouldSound(1, 0, 1));
        check.due("wouldSound(1, 0, 2)", 64 - 18, x.wouldSound(1, 0, 2));
        check.due("wouldSound(1, 0, 3)", 64 - 18, x.wouldSound(1, 0, 3));
        check.due("wouldSound(1, 0, 9)", 64 - 18, x.wouldSound(1, 0, 9));
    }

    // Promise 25: "how many blows, from 0 to 99"
    // Promise 25: "BAD if a number is out of range"
    // Broken in CopperStreet.wouldSound: blows < 0 => blows < -1
    // Broken in CopperStreet.wouldSound: blows < 0 => blows <= 0
    // Broken in CopperStreet.wouldSound: blows > MOST_BLOWS => blows > MOST_BLOWS + 1
    // Broken in CopperStreet.wouldSound: blows > MOST_BLOWS => blows >= MOST_BLOWS
    static void wouldSoundTakes0To99Blows(Check check) {
        CopperStreet x = Check.streetWithPots(9);
        check.due("wouldSound(0, -1, 0)", BAD, x.wouldSound(0, -1, 0));
        check.due("wouldSound(0, 100, 0)", BAD, x.wouldSound(0, 100, 0));
        check.due("wouldSound(0, MIN, 0)", BAD, x.wouldSound(0, Integer.MIN_VALUE, 0));
        check.due("wouldSound(0, MAX, 0)", BAD, x.wouldSound(0, Integer.MAX_VALUE, 0));
        check.due("wouldSound(0, 0, 0)", 75, x.wouldSound(0, 0, 0));
        check.due("wouldSound(2, 99, 0)", 0, x.wouldSound(2, 99, 0));
    }

    // Promise 25: "how many coats, from 0 to 9"
    // Promise 25: "BAD if a number is out of range"
    // Broken in CopperStreet.wouldSound: coats < 0 => coats < -1
    // Broken in CopperStreet.wouldSound: coats < 0 => coats <= 0
    // Broken in CopperStreet.wouldSound: coats > MOST_TIN => coats > MOST_TIN + 1
    // Broken in CopperStreet.wouldSound: coats > MOST_TIN => coats >= MOST_TIN
    static void wouldSoundTakes0To9Coats(Check check) {
        CopperStreet x = Check.streetWithPots(9);
        check.due("wouldSound(0, 0, -1)", BAD, x.wouldSound(0, 0, -1));
        check.due("wouldSound(0, 0, 10)", BAD, x.wouldSound(0, 0, 10));
        check.due("wouldSound(0, 0, MIN)", BAD, x.wouldSound(0, 0, Integer.MIN_VALUE));
        check.due("wouldSound(0, 0, MAX)", BAD, x.wouldSound(0, 0, Integer.MAX_VALUE));
        check.due("wouldSound(0, 0, 0)", 75, x.wouldSound(0, 0, 0));
        check.due("wouldSound(0, 0, 9)", 66, x.wouldSound(0, 0, 9));
    }

    // Promise 25: "NONE if there is no such pot"
    // Broken in Shop.potAt: number < potCount => number <= potCount
    // Broken in Shop.potAt: number >= 0 && => true &&
    // Broken in CopperStreet.wouldSound: return NONE; => return BAD;
    static void noPotWouldSound(Check check) {
        CopperStreet x = Check.streetWithPots(2);
        for (int pot : NO_POTS) {
            check.due("wouldSound(" + pot + ", 0, 0)", NONE, x.wouldSound(pot, 0, 0));
        }
        check.due("wouldSound(2, 0, 0)", 16, x.wouldSound(2, 0, 0));
    }

    // Promise 25, Terms: "If several codes apply, the one that is named first is returned."
    // Broken in CopperStreet.wouldSound: return NONE; => return blows < 0 || coats > MOST_TIN ? BAD : NONE;
    static void wouldSoundTellsNoneBeforeBad(Check check) {
        CopperStreet x = Check.streetWithPots(2);
        check.due("wouldSound(3, -1, 0)", NONE, x.wouldSound(3, -1, 0));
        check.due("wouldSound(3, 0, 10)", NONE, x.wouldSound(3, 0, 10));
    }

    // Promise 26: "Returns how many blows more make a pot smooth"
    // Promise 26: "0 for smooth"
    // Promise 26: "Returns how many, 0 if it is so"
    // Broken in CopperStreet.blowsTo: hit.blowsMissing(hit.kind.smoothBlows) => hit.kind.smoothBlows
    // Broken in Pot.blowsMissing: Math.max(wanted - blows, 0) => wanted - blows
    // Broken in Pot.blowsMissing: Math.max(wanted - blows, 0) => Math.max(wanted - blows, 1)
    static void blowsToSmooth(Check check) {
        CopperStreet x = Check.streetWithPots(2);
        for (int pot = 0; pot < 3; pot++) {
            check.due("without blows, pot " + pot, SMOOTH[pot], x.blowsTo(pot, 0));
            x.planish(pot, SMOOTH[pot] - 1);
            check.due("with one missing, pot " + pot, 1, x.blowsTo(pot, 0));
            x.planish(pot, 1);
            check.due("just smooth, pot " + pot, 0, x.blowsTo(pot, 0));
            x.planish(pot, 9);
            check.due("beyond it, pot " + pot, 0, x.blowsTo(pot, 0));
        }
    }

    // Promise 26: "or crack it"
    // Promise 26: "1 for cracked"
    // Promise 26: "Returns how many, 0 if it is so"
    // Broken in Pot.crackingBlows: kind.smoothBlows + => kind.smoothBlows - 1 +
    // Broken in Pot.blowsMissing: Math.max(wanted - blows, 0) => wanted - blows
    static void blowsToCrack(Check check) {
        CopperStreet x = Check.streetWithPots(2);
        for (int pot = 0; pot < 3; pot++) {
            check.due("without blows, pot " + pot, SMOOTH[pot] + 12, x.blowsTo(pot, 1));
            x.planish(pot, SMOOTH[pot] + 11);
            check.due("with one missing, pot " + pot, 1, x.blowsTo(pot, 1));
            x.planish(pot, 20);
            check.due("cracked, pot " + pot, 0, x.blowsTo(pot, 1));
            check.due("smooth as well, pot " + pot, 0, x.blowsTo(pot, 0));
        }
    }

    // Promise 26: "NONE if there is no such pot"
    // Broken in Shop.potAt: number < potCount => number <= potCount
    // Broken in Shop.potAt: number >= 0 && => true &&
    // Broken in CopperStreet.blowsTo: return NONE; => return BAD;
    static void noPotNeedsBlows(Check check) {
        CopperStreet x = Check.streetWithPots(2);
        for (int pot : NO_POTS) {
            check.due("blowsTo(" + pot + ", 0)", NONE, x.blowsTo(pot, 0));
        }
        check.due("blowsTo(2, 0)", 40, x.blowsTo(2, 0));
    }

    // Promise 26: "BAD if there is no such what"
    // Broken in CopperStreet.blowsTo: if (what == 0) => if (what <= 0)
    // Broken in CopperStreet.blowsTo: return what == 1 ? => return what >= 1 ?
    static void blowsToKnowsTwoWhats(Check check) {
        CopperStreet x = Check.streetWithPots(2);
        check.due("blowsTo(0, -1)", BAD, x.blowsTo(0, -1));
        check.due("blowsTo(0, 2)", BAD, x.blowsTo(0, 2));
        check.due("blowsTo(0, MIN)", BAD, x.blowsTo(0, Integer.MIN_VALUE));
        check.due("blowsTo(0, MAX)", BAD, x.blowsTo(0, Integer.MAX_VALUE));
    }

    // Promise 26, Terms: "If several codes apply, the one that is named first is returned."
    // Broken in CopperStreet.blowsTo: return NONE; => return what == 2 ? BAD : NONE;
    static void blowsToTellsNoneBeforeBad(Check check) {
        check.due("blowsTo(3, 2)", NONE, Check.streetWithPots(2).blowsTo(3, 2));
    }

    // Promise 27: "Returns how many meals more wear the tin of a pot through."
    // Broken in Pot.mealsLeft: - mealsNotWorn => - 0
    // Broken in Pot.mealsLeft: tin * kind.mealsToWear => kind.mealsToWear
    static void mealsToWearTheTinThrough(Check check) {
        CopperStreet x = Streets.withSmoothPots(3);
        x.tin(0, 2);
        check.due("with 2 of tin", 8, x.mealsTo(0));
        x.cook(0, 3);
        check.due("after 3 meals", 5, x.mealsTo(0));
        x.cook(0, 4);
        check.due("after 7 meals", 1, x.mealsTo(0));
        check.due("cook(0, 1)", 0, x.cook(0, 1));
    }

    // Promise 27: "Returns how many, 0 without tin"
    // Broken in Pot.mealsLeft: tin == 0 ? 0 : => tin == 0 ? kind.mealsToWear :
    static void noMealsWearNoTin(Check check) {
        CopperStreet x = Streets.withSmoothPots(3);
        check.due("without tin", 0, x.mealsTo(0));
        x.tin(0, 1);
        x.cook(0, 7);
        check.due("worn through", 0, x.mealsTo(0));
    }

    // Promise 27: "NONE if there is no such pot"
    // Broken in Shop.potAt: number < potCount => number <= potCount
    // Broken in Shop.potAt: number >= 0 && => true &&
    // Broken in CopperStreet.mealsTo: ? NONE => ? 0
    static void noPotNeedsMeals(Check check) {
        CopperStreet x = Check.streetWithPots(2);
        for (int pot : NO_POTS) {
            check.due("mealsTo(" + pot + ")", NONE, x.mealsTo(pot));
        }
        check.due("mealsTo(2)", 0, x.mealsTo(2));
    }

    // Promise 28: "Returns how many bars coats of tin take for a pot."
    // Promise 28, Terms: "of several coats at once, the sum of these is rounded up"
    // Promise 28: "Returns how many"
    // Broken in Kind.barsOf: + 3) / 4 => + 4) / 4
    // Broken in Kind.barsOf: + 3) / 4 => - 1) / 4
    static void barsForCoatsOfEachKind(Check check) {
        CopperStreet x = Check.streetWithPots(3);
        for (int coats = 1; coats < 10; coats++) {
            check.due("for a kettle", 3 * coats, x.barsFor(0, coats));
            check.due("for a pan", 2 * coats, x.barsFor(1, coats));
            check.due("for a cauldron", 5 * coats, x.barsFor(2, coats));
        }
    }

    // Promise 28: "how many coats, from 1 to 9"
    // Promise 28: "BAD if the number is out of range"
    // Broken in CopperStreet.barsFor: coats < 1 => coats < 0
    // Broken in CopperStreet.barsFor: coats < 1 => coats < 2
    // Broken in CopperStreet.barsFor: coats > MOST_TIN => coats > MOST_TIN + 1
    // Broken in CopperStreet.barsFor: coats > MOST_TIN => coats >= MOST_TIN
    static void barsForTakes1To9Coats(Check check) {
        CopperStreet x = Check.streetWithPots(3);
        check.due("barsFor(1, 0)", BAD, x.barsFor(1, 0));
        check.due("barsFor(1, 10)", BAD, x.barsFor(1, 10));
        check.due("barsFor(1, MIN)", BAD, x.barsFor(1, Integer.MIN_VALUE));
        check.due("barsFor(1, MAX)", BAD, x.barsFor(1, Integer.MAX_VALUE));
        check.due("barsFor(1, 1)", 2, x.barsFor(1, 1));
        check.due("barsFor(1, 9)", 18, x.barsFor(1, 9));
    }

    // Promise 28: "NONE if there is no such pot"
    // Broken in Shop.potAt: number < potCount => number <= potCount
    // Broken in Shop.potAt: number >= 0 && => true &&
    // Broken in CopperStreet.barsFor: return NONE; => return BAD;
    static void noPotTakesBars(Check check) {
        CopperStreet x = Check.streetWithPots(2);
        for (int pot : NO_POTS) {
            check.due("barsFor(" + pot + ", 1)", NONE, x.barsFor(pot, 1));
        }
        check.due("barsFor(2, 1)", 5, x.barsFor(2, 1));
    }

    // Promise 28, Terms: "If several codes apply, the one that is named first is returned."
    // Broken in CopperStreet.barsFor: return NONE; => return coats < 1 ? BAD : NONE;
    static void barsForTellsNoneBeforeBad(Check check) {
        check.due("barsFor(3, 0)", NONE, Check.streetWithPots(2).barsFor(3, 0));
    }

    // Promise 39: "Returns the mean sound of the pots in the shop"
    // Promise 39: "the sum divided by their number, both converted to float"
    // Promise 39: "Returns the mean"
    // Broken in Chimes.mean: (float) sum / (float) ringing => (float) (sum / ringing)
    // Broken in Chimes.mean: (float) sum / (float) ringing => (float) sum / (float) size
    // Broken in Chimes.listen: pot.isSold() ? NOT_IN_SHOP : pot.ring() => pot.ring()
    static void meanSoundIsAFloat(Check check) {
        CopperStreet x = Check.streetWithPots(1);
        check.due("meanSound() of 35, 54 and 13", 34.0, x.meanSound());
        x.planish(1, 16);
        check.due("meanSound() of 35, 56 and 13", 104.0f / 3.0f, x.meanSound());
        x.tin(1, 3);
        x.baker(1, 1, 1);
        x.sell(1, 0);
        check.due("meanSound() of 35 and 13", 24.0, x.meanSound());
    }

    // Promise 39, Terms: "if it is cracked, 0."
    // Broken in Chimes.mean: if (sounds[i] >= 0) => if (sounds[i] > 0)
    static void aCrackedPotCountsInTheMean(Check check) {
        CopperStreet x = Streets.withPans(2);
        x.planish(1, 22);
        check.due("meanSound() of 54 and 0", 27.0, x.meanSound());
        x.planish(0, 22);
        check.due("meanSound() of 0 and 0", 0.0, x.meanSound());
    }

    // Promise 39: "0.0f without such"
    // Broken in Chimes.mean: ringing == 0 ? 0.0f : => ringing == 0 ? 1.0f :
    // Broken in Chimes.mean: ringing == 0 ? 0.0f : =>
    static void meanSoundIs0WithoutPots(Check check) {
        check.due("meanSound() in a new street", 0.0, new CopperStreet().meanSound());
        CopperStreet x = Streets.withGoodPans(1);
        x.baker(1, 1, 1);
        x.sell(0, 0);
        check.due("meanSound() with all pots sold", 0.0, x.meanSound());
    }
}

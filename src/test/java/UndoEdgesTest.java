/** Promises 2 and 42 to 44, sentence by sentence: clearing, undoing, saving and restoring. */
public final class UndoEdgesTest {
    private static final int NONE = CopperStreet.NONE;
    private static final int NOTHING = CopperStreet.NOTHING;

    public static void main(String[] args) throws ReflectiveOperationException {
        Edges.run(UndoEdgesTest.class);
    }

    // Promise 2: "Makes everything as in a new object"
    // Broken in Shop.startAnew: sheetCount = 0; => ;
    // Broken in Shop.startAnew: potCount = 0; => ;
    // Broken in Shop.startAnew: orderCount = 0; => ;
    // Broken in Shop.startAnew: coins = FIRST_COINS; => ;
    // Broken in Shop.startAnew: bars = FIRST_BARS; => ;
    // Broken in Shop.startAnew: barsBought = 0; => ;
    // Broken in Shop.startAnew: barsUsed = 0; => ;
    // Broken in Shop.startAnew: coats = 0; => ;
    static void clearMakesAllAnew(Check check) {
        CopperStreet x = Streets.withSoldPan();
        x.bars(3);
        x.cook(0, 1);
        x.clear();
        int[] due = {30, 20, 0, 0, 0, 0, 0, 0, 0, 0, 0, 0, 0, 0, 0, 0};
        for (int what = 0; what < due.length; what++) {
            check.due("account(" + what + ")", due[what], x.account(what));
        }
        check.due("coinsAgain()", 30, x.coinsAgain());
        check.due("barsAgain()", 20, x.barsAgain());
        check.due("sheetOf(0, 0)", NONE, x.sheetOf(0, 0));
        check.due("potOf(0, 0)", NONE, x.potOf(0, 0));
        check.due("orderOf(0, 0)", NONE, x.orderOf(0, 0));
    }

    // Promise 2: "Makes everything as in a new object"
    // Broken in Sheet.arrive: pots = 0; => ;
    // Broken in Pot.arrive: blows = 0; => ;
    // Broken in Pot.arrive: tin = 0; => ;
    // Broken in Pot.arrive: meals = 0; => ;
    // Broken in Pot.arrive: mealsNotWorn = 0; => ;
    // Broken in Pot.arrive: order = NOTHING; => ;
    // Broken in Order.arrive: pot = NOTHING; => ;
    // Broken in Order.arrive: paid = 0; => ;
    static void nothingIsLeftBehindAClear(Check check) {
        CopperStreet x = Streets.withGoodPans(1);
        x.cook(0, 1);
        x.baker(1, 1, 20);
        x.sell(0, 0);
        x.clear();
        x.sheet(1, 60);
        check.due("pots of the sheet", 0, x.sheetOf(0, 2));
        x.raise(0, 1);
        int[] due = {1, 1, 1, 0, 0, 0, 0, 0, NOTHING, 0};
        for (int what = 0; what < due.length; what++) {
            check.due("potOf(0, " + what + ")", due[what], x.potOf(0, what));
        }
        x.baker(1, 1, 20);
        check.due("pot of the order", NOTHING, x.orderOf(0, 3));
        check.due("what was paid", 0, x.orderOf(0, 4));
        Streets.makeGood(x, 0);
        check.due("meals to wear it through", 6, x.mealsTo(0));
    }

    // Promise 2: "except the input, the fault position, the reasons, the written line"
    // Broken in CopperStreet.clear: history.forget(); => history.forget(); script.empty();
    // Broken in CopperStreet.clear: history.forget(); => history.forget(); faultPosition = NOTHING;
    // Broken in CopperStreet.clear: history.forget(); => history.forget(); reasons.refuse(0, 0);
    // Broken in CopperStreet.clear: history.forget(); => history.forget(); line.setLength(0);
    static void clearKeepsWhatIsNoChange(Check check) {
        CopperStreet x = Check.streetWithPots(2);
        keepSomething(x);
        x.clear();
        keptDue(check, x);
    }

    // Promise 2: "and what was saved"
    // Broken in CopperStreet.clear: history.forget(); => history.forget(); isSaved = false;
    // Broken in CopperStreet.clear: history.forget(); => history.forget(); saved.startAnew();
    static void clearKeepsWhatWasSaved(Check check) {
        CopperStreet x = Check.streetWithPots(2);
        x.save();
        x.clear();
        check.due("restore()", 3, x.restore());
        check.due("gauge", 2, x.sheetOf(0, 0));
    }

    // Promise 2: "Nothing can be undone then."
    // Broken in CopperStreet.clear: history.forget(); => ;
    static void aClearCannotBeUndone(Check check) {
        CopperStreet x = Check.streetWithPots(2);
        x.clear();
        check.due("account(15)", 0, x.account(15));
        check.due("undo()", NOTHING, x.undo());
        check.due("pots", 0, x.account(3));
        x.bars(1);
        check.due("undo() of a change after it", 0, x.undo());
        check.due("undo()", NOTHING, x.undo());
    }

    // Promise 2: "Returns how many pots there were"
    // Broken in CopperStreet.clear: return pots; => return shop.potCount;
    static void clearReturnsHowManyPotsThereWere(Check check) {
        check.due("clear() of a new street", 0, new CopperStreet().clear());
        CopperStreet x = Streets.withSoldPan();
        check.due("clear() of three pots, one sold", 3, x.clear());
        check.due("clear() again", 0, x.clear());
        check.due("clear() of as many as there can be", 16, Streets.withPans(16).clear());
    }

    // Promise 42: "Undoes the latest change."
    // Broken in History.takeBack: returnTo(shop); => ;
    // Broken in History.takeBack: next = (next + MOST_CHANGES) % (MOST_CHANGES + 1); => next = Math.max(next - 2, 0);
    static void undoTakesBackTheLatestChange(Check check) {
        CopperStreet x = new CopperStreet();
        x.bars(1);
        x.bars(2);
        x.bars(4);
        x.undo();
        check.due("bars", 23, x.account(1));
        x.undo();
        check.due("bars", 21, x.account(1));
        x.bars(8);
        x.undo();
        check.due("bars", 21, x.account(1));
        x.undo();
        check.due("bars", 20, x.account(1));
    }

    // Promise 42: "Returns the number of changes that can still be undone"
    // Broken in History.takeBack: return count; => return count + 1;
    // Broken in History.takeBack: count--; => ;
    static void undoReturnsWhatCanStillBeUndone(Check check) {
        CopperStreet x = new CopperStreet();
        x.bars(1);
        x.bars(1);
        check.due("undo()", 1, x.undo());
        check.due("account(15)", 1, x.account(15));
        check.due("undo()", 0, x.undo());
        check.due("account(15)", 0, x.account(15));
    }

    // Promise 42: "NOTHING if there is none"
    // Broken in CopperStreet.undo: history.isEmpty() ? NOTHING => history.isEmpty() ? NONE
    // Broken in CopperStreet.undo: history.isEmpty() ? NOTHING : history.takeBack(shop) => history.takeBack(shop)
    static void undoIsNothingWithoutChanges(Check check) {
        CopperStreet x = new CopperStreet();
        check.due("undo() in a new street", NOTHING, x.undo());
        x.bars(1);
        x.undo();
        check.due("undo() of all that was undone", NOTHING, x.undo());
        check.due("undo() again", NOTHING, x.undo());
        check.due("bars", 20, x.account(1));
    }

    // Promise 42, Terms: "The latest 8 can be undone."
    // Broken in CopperStreet: MOST_CHANGES = 8 => MOST_CHANGES = 7
    // Broken in CopperStreet: MOST_CHANGES = 8 => MOST_CHANGES = 9
    static void eightChangesCanBeUndone(Check check) {
        CopperStreet x = new CopperStreet();
        for (int change = 1; change <= 9; change++) {
            x.bars(1);
            check.due("account(15)", Math.min(change, 8), x.account(15));
        }
        for (int left = 7; left >= 0; left--) {
            check.due("undo()", left, x.undo());
            check.due("bars", 21 + left, x.account(1));
        }
        check.due("undo() of a ninth", NOTHING, x.undo());
        check.due("bars", 21, x.account(1));
    }

    // Promise 42, Terms: "The latest 8 can be undone."
    // Broken in History.keep: next = (next + 1) % (MOST_CHANGES + 1); => next = (next + 1) % MOST_CHANGES;
    // Broken in History.takeBack: (next + MOST_CHANGES) % => (next + MOST_CHANGES - 1) %
    static void theLatest8OfMany(Check check) {
        CopperStreet x = new CopperStreet();
        for (int change = 1; change <= 30; change++) {
            x.bars(1);
        }
        for (int left = 7; left >= 0; left--) {
            check.due("undo()", left, x.undo());
            check.due("bars", 42 + left, x.account(1));
        }
        check.due("undo() of a ninth", NOTHING, x.undo());
    }

    // Promise 42, Terms: "The changes are the successful calls of sheet, raise, planish, bars, tin, cook, baker, sell and read"
    // Broken in CopperStreet.sheet: return kept(smith.buySheet(gauge, area)); => return smith.buySheet(gauge, area);
    // Broken in CopperStreet.raise: return kept(smith.raisePot(sheet, kind)); => return smith.raisePot(sheet, kind);
    // Broken in CopperStreet.planish: return kept(smith.hit(pot, blows)); => return smith.hit(pot, blows);
    // Broken in CopperStreet.bars: return kept(smith.buyBars(bars)); => return smith.buyBars(bars);
    // Broken in CopperStreet.tin: return kept(smith.coat(pot, coats)); => return smith.coat(pot, coats);
    // Broken in CopperStreet.cook: return kept(smith.use(pot, meals)); => return smith.use(pot, meals);
    // Broken in CopperStreet.baker: return kept(smith.takeOrder(kind, tin, pay)); => return smith.takeOrder(kind, tin, pay);
    // Broken in CopperStreet.sell: return kept(smith.handOver(pot, order)); => return smith.handOver(pot, order);
    // Broken in CopperStreet.read: answer = kept(carryOut()) => answer = carryOut()
    // Broken in CopperStreet.sheet: history.note(shop); => ;
    // Broken in CopperStreet.raise: history.note(shop); => ;
    // Broken in CopperStreet.planish: history.note(shop); => ;
    // Broken in CopperStreet.bars: history.note(shop); => ;
    // Broken in CopperStreet.tin: history.note(shop); => ;
    // Broken in CopperStreet.cook: history.note(shop); => ;
    // Broken in CopperStreet.baker: history.note(shop); => ;
    // Broken in CopperStreet.sell: history.note(shop); => ;
    static void eachChangeCanBeUndone(Check check) {
        for (int change = 0; change < 9; change++) {
            CopperStreet x = Streets.withGoodPans(1);
            x.baker(1, 1, 9);
            String before = told(x);
            int changes = x.account(15);
            check.due("change " + change + " is made", true, change(x, change) >= 0);
            check.due("account(15) after change " + change, changes + 1, x.account(15));
            check.due("change " + change + " is told", false, before.equals(told(x)));
            check.due("undo() of change " + change, changes, x.undo());
            check.due("all numbers after change " + change, before, told(x));
        }
    }

    private static int change(CopperStreet x, int change) {
        switch (change) {
            case 0: return x.sheet(2, 20);
            case 1: return x.raise(0, 2);
            case 2: return x.planish(0, 1);
            case 3: return x.bars(1);
            case 4: return x.tin(0, 1);
            case 5: return x.cook(0, 1);
            case 6: return x.baker(0, 9, 3);
            case 7: return x.sell(0, 0);
            default: return Check.read(x, "raise 0 0;hit 1 30;tin 0 1;cook 0 1;sell 0 0;bars 1");
        }
    }

    /** The numbers that changes can change, with three places for sheets, pots and orders. */
    private static String told(CopperStreet x) {
        StringBuilder told = new StringBuilder();
        for (int what = 0; what < 14; what++) {
            told.append(x.account(what)).append(' ');
        }
        for (int number = 0; number < 3; number++) {
            for (int what = 0; what < 10; what++) {
                told.append(x.sheetOf(number, what)).append(' ').append(x.potOf(number, what)).append(' ');
                told.append(x.orderOf(number, what)).append(' ');
            }
            told.append(x.mealsTo(number)).append(' ');
        }
        return told.append(x.coinsAgain()).append(' ').append(x.barsAgain()).toString();
    }

    // No call of these can succeed and leave all as it was; the nearest is the sale of a used pot for half of 1.
    // Promise 42, Terms: "also those by which nothing is different"
    // Broken in CopperStreet.kept: if (answer >= 0) => if (answer >= 0 && (history.isEmpty() || answer != history.shops[history.next].coins))
    static void aChangeThatBringsNothingCounts(Check check) {
        CopperStreet x = Streets.withGoodPans(1);
        x.cook(0, 1);
        x.baker(1, 1, 1);
        int changes = x.account(15);
        check.due("sell(0, 0)", 29, x.sell(0, 0));
        check.due("account(15)", changes + 1, x.account(15));
        check.due("undo()", changes, x.undo());
        check.due("order of the pot", NOTHING, x.potOf(0, 8));
    }

    // Promise 42, Terms: "the successful calls"
    // Broken in CopperStreet.kept: if (answer >= 0) => if (answer >= CopperStreet.REFUSED)
    // Broken in CopperStreet.kept: if (answer >= 0) => if (answer > 0)
    static void whatReturnsACodeIsNoChange(Check check) {
        CopperStreet x = new CopperStreet();
        x.sheet(0, 1);
        x.raise(0, 0);
        x.planish(0, 1);
        x.bars(31);
        x.tin(0, 1);
        x.cook(0, 1);
        x.baker(3, 1, 1);
        x.sell(0, 0);
        Check.read(x, "bars 31");
        Check.read(x, "bars");
        check.due("account(15)", 0, x.account(15));
        check.due("sheet(1, 20), which returns 0", 0, x.sheet(1, 20));
        check.due("account(15)", 1, x.account(15));
    }

    // Promise 42, Terms: "A call that returns a code leaves everything as it was"
    // Broken in CopperStreet.bars: history.note(shop); => history.note(shop); if (shop.coins < bars) { history.keep(); }
    // Broken in CopperStreet.read: history.note(shop); => history.note(shop); if (script.size() > 2) { history.keep(); }
    // Broken in CopperStreet.planish: history.note(shop); => history.note(shop); history.takeBack(shop);
    static void whatReturnsACodeLeavesTheChanges(Check check) {
        CopperStreet x = new CopperStreet();
        for (int change = 1; change <= 9; change++) {
            x.bars(1);
        }
        x.bars(22);
        Check.read(x, "bars 1;bars 1;bars 20");
        x.planish(0, 1);
        check.due("bars", 29, x.account(1));
        for (int left = 7; left >= 0; left--) {
            check.due("undo()", left, x.undo());
            check.due("bars", 21 + left, x.account(1));
        }
        check.due("undo() of a ninth", NOTHING, x.undo());
    }

    // Promise 42, Terms: "The changes are the successful calls of"
    // Broken in CopperStreet.append: return script.add(character); => history.note(shop); return kept(script.add(character));
    // Broken in CopperStreet.describe: return line.length(); => history.note(shop); return kept(line.length());
    // Broken in CopperStreet.save: isSaved = true; => isSaved = true; history.note(shop); history.keep();
    static void otherCallsAreNoChanges(Check check) {
        CopperStreet x = Check.streetWithPots(2);
        x.append('b');
        x.describe(0);
        x.sound(0);
        x.ranked(0);
        x.fits(0, 0);
        x.filled();
        x.wouldSound(0, 1, 1);
        x.save();
        check.due("account(15)", 4, x.account(15));
        check.due("undo() of raise", 3, x.undo());
        check.due("pots", 2, x.account(3));
    }

    // Promise 42, Terms: "The changes are the successful calls of sheet, raise, planish, bars, tin, cook, baker, sell and read"
    // Broken in CopperStreet.carryOut: smith.perform(script, number); => smith.perform(script, number); history.keep();
    static void aTextIsOneChange(Check check) {
        CopperStreet x = new CopperStreet();
        x.bars(1);
        check.due("read()", 3, Check.read(x, "bars 1;bars 2;bars 3"));
        check.due("account(15)", 2, x.account(15));
        check.due("undo()", 1, x.undo());
        check.due("bars", 21, x.account(1));
    }

    /** Leaves an input, a fault position, a reason, and a written line. */
    private static void keepSomething(CopperStreet x) {
        Check.read(x, "bars 1x");
        x.bars(50);
        x.describe(1);
        Check.type(x, "hit");
    }

    private static void keptDue(Check check, CopperStreet x) {
        check.due("characters of the input", 3, x.account(14));
        check.due("fault()", 6, x.fault());
        check.reasonDue(x, 0, 2, 22);
        check.due("line", "pan1:2", Check.line(x));
        Check.type(x, " 9 9");
        x.read();
        check.due("the input was as it was typed", 14, x.reason(0, false));
    }

    // Promise 42, Terms: "The input, the fault position, the reasons and the written line are neither undone nor saved, and stay."
    // Broken in CopperStreet.undo: return history => script.empty(); return history
    // Broken in CopperStreet.undo: return history => faultPosition = NOTHING; return history
    // Broken in CopperStreet.undo: return history => reasons.refuse(0, 0); return history
    // Broken in CopperStreet.undo: return history => line.setLength(0); return history
    static void undoKeepsWhatIsNoChange(Check check) {
        CopperStreet x = Check.streetWithPots(2);
        keepSomething(x);
        x.undo();
        keptDue(check, x);
    }

    // Promise 43: "Saves all that changes can change"
    // Broken in Shop.copyFrom: sheetCount = other.sheetCount; => ;
    // Broken in Shop.copyFrom: potCount = other.potCount; => ;
    // Broken in Shop.copyFrom: orderCount = other.orderCount; => ;
    // Broken in Shop.copyFrom: coins = other.coins; => ;
    // Broken in Shop.copyFrom: bars = other.bars; => ;
    // Broken in Shop.copyFrom: barsBought = other.barsBought; => ;
    // Broken in Shop.copyFrom: barsUsed = other.barsUsed; => ;
    // Broken in Shop.copyFrom: coats = other.coats; => ;
    // Broken in Sheet.copyFrom: gauge = other.gauge; => ;
    // Broken in Sheet.copyFrom: firstArea = other.firstArea; => ;
    // Broken in Sheet.copyFrom: area = other.area; => ;
    // Broken in Sheet.copyFrom: pots = other.pots; => ;
    // Broken in Pot.copyFrom: kind = other.kind; => ;
    // Broken in Pot.copyFrom: sheet = other.sheet; => ;
    // Broken in Pot.copyFrom: gauge = other.gauge; => ;
    // Broken in Pot.copyFrom: blows = other.blows; => ;
    // Broken in Pot.copyFrom: tin = other.tin; => ;
    // Broken in Pot.copyFrom: mealsNotWorn = other.mealsNotWorn; => ;
    // Broken in Pot.copyFrom: meals = other.meals; => ;
    // Broken in Pot.copyFrom: order = other.order; => ;
    // Broken in Order.copyFrom: kind = other.kind; => ;
    // Broken in Order.copyFrom: tin = other.tin; => ;
    // Broken in Order.copyFrom: pay = other.pay; => ;
    // Broken in Order.copyFrom: pot = other.pot; => ;
    // Broken in Order.copyFrom: paid = other.paid; => ;
    static void allNumbersAreSaved(Check check) {
        CopperStreet x = new CopperStreet();
        x.sheet(1, 30);
        x.sheet(2, 50);
        x.raise(1, 1);
        x.raise(1, 1);
        x.bars(2);
        x.planish(1, 17);
        x.tin(1, 4);
        x.cook(1, 3);
        x.baker(0, 2, 11);
        x.baker(1, 3, 17);
        x.sell(1, 1);
        String before = told(x);
        x.save();
        x.clear();
        x.sheet(3, 60);
        x.sheet(4, 60);
        x.raise(0, 0);
        x.raise(0, 0);
        x.raise(0, 0);
        x.baker(2, 9, 99);
        x.baker(2, 9, 99);
        x.baker(2, 9, 99);
        check.due("another street is told", false, before.equals(told(x)));
        x.restore();
        check.due("all numbers", before, told(x));
    }

    // Promise 43: "in place of what was saved before"
    // Broken in CopperStreet.save: saved.copyFrom(shop); => if (!isSaved) { saved.copyFrom(shop); }
    static void theLatestSaveCounts(Check check) {
        CopperStreet x = new CopperStreet();
        x.save();
        x.bars(1);
        x.save();
        x.bars(2);
        check.due("restore()", 0, x.restore());
        check.due("bars", 21, x.account(1));
    }

    // Promise 43: "Returns how many pots there are"
    // Broken in CopperStreet.save: return shop.potCount; => return shop.potCount - shop.soldPots();
    // Broken in CopperStreet.save: return shop.potCount; => return shop.sheetCount;
    static void saveReturnsHowManyPotsThereAre(Check check) {
        check.due("save() of a new street", 0, new CopperStreet().save());
        check.due("save() of three pots, one sold", 3, Streets.withSoldPan().save());
    }

    // Promise 43, Terms: "The input, the fault position, the reasons and the written line are neither undone nor saved, and stay."
    // Broken in CopperStreet.save: isSaved = true; => isSaved = true; script.empty();
    // Broken in CopperStreet.save: isSaved = true; => isSaved = true; faultPosition = NOTHING;
    // Broken in CopperStreet.save: isSaved = true; => isSaved = true; reasons.refuse(0, 0);
    // Broken in CopperStreet.save: isSaved = true; => isSaved = true; line.setLength(0);
    static void saveKeepsWhatIsNoChange(Check check) {
        CopperStreet x = Check.streetWithPots(2);
        keepSomething(x);
        x.save();
        keptDue(check, x);
    }

    // Promise 44: "Restores what was saved, which stays saved."
    // Broken in CopperStreet.restore: history.forget(); => history.forget(); isSaved = false;
    // Broken in CopperStreet.restore: history.forget(); => history.forget(); saved.startAnew();
    static void whatWasSavedStaysSaved(Check check) {
        CopperStreet x = Check.streetWithPots(2);
        x.save();
        for (int time = 0; time < 3; time++) {
            x.planish(0, 24);
            x.tin(0, 1);
            x.raise(0, 1);
            check.due("restore()", 3, x.restore());
            check.due("blows", 0, x.potOf(0, 3));
            check.due("tin", 0, x.potOf(0, 4));
        }
    }

    // Promise 44: "Nothing can be undone then."
    // Broken in CopperStreet.restore: history.forget(); => ;
    static void aRestoreCannotBeUndone(Check check) {
        CopperStreet x = Check.streetWithPots(2);
        x.save();
        x.bars(1);
        x.restore();
        check.due("account(15)", 0, x.account(15));
        check.due("undo()", NOTHING, x.undo());
        check.due("bars", 20, x.account(1));
        x.bars(1);
        check.due("undo() of a change after it", 0, x.undo());
        check.due("undo()", NOTHING, x.undo());
    }

    // Promise 44: "Returns how many pots there are"
    // Broken in CopperStreet.restore: return shop.potCount; => return shop.potCount - shop.soldPots();
    // Broken in CopperStreet.restore: shop.copyFrom(saved); => int pots = shop.potCount; shop.copyFrom(saved); if (pots > 3) { return pots; }
    static void restoreReturnsHowManyPotsThereAre(Check check) {
        CopperStreet x = Streets.withSoldPan();
        x.save();
        x.raise(0, 1);
        check.due("restore() of three pots, one sold", 3, x.restore());
        CopperStreet y = new CopperStreet();
        y.save();
        y.sheet(1, 20);
        y.raise(0, 1);
        check.due("restore() of none", 0, y.restore());
        check.due("pots", 0, y.account(3));
    }

    // Promise 44: "NOTHING if nothing was saved"
    // Promise 44, Terms: "A call that returns a code leaves everything as it was"
    // Broken in CopperStreet: private boolean isSaved = false => private boolean isSaved = true
    // Broken in CopperStreet.restore: return NOTHING; => return NONE;
    // Broken in CopperStreet.restore: return NOTHING; => history.forget(); return NOTHING;
    static void restoreIsNothingWithoutASave(Check check) {
        CopperStreet x = Check.streetWithPots(2);
        check.due("restore()", NOTHING, x.restore());
        check.due("pots", 3, x.account(3));
        check.due("changes", 4, x.account(15));
    }

    // Promise 44, Terms: "The input, the fault position, the reasons and the written line are neither undone nor saved, and stay."
    // Broken in CopperStreet.restore: history.forget(); => history.forget(); script.empty();
    // Broken in CopperStreet.restore: history.forget(); => history.forget(); faultPosition = NOTHING;
    // Broken in CopperStreet.restore: history.forget(); => history.forget(); reasons.refuse(0, 0);
    // Broken in CopperStreet.restore: history.forget(); => history.forget(); line.setLength(0);
    static void restoreKeepsWhatIsNoChange(Check check) {
        CopperStreet x = Check.streetWithPots(2);
        x.save();
        keepSomething(x);
        x.bars(1);
        x.restore();
        keptDue(check, x);
    }
}

import java.util.Random;

/** Long runs of calls, the same ones each time, of which every answer is compared with the model's. */
public final class ModelTest {
    private static final int RUNS = 4000;
    private static final int MOST_CALLS = 512;
    private static final Check CHECK = new Check("ModelTest");

    private final Random random;
    private final CopperStreet street = new CopperStreet();
    private final Model model = new Model();
    private final String name;
    private int calls = 0;

    private ModelTest(int run) {
        random = new Random(run);
        name = "run " + run + ", call ";
    }

    public static void main(String[] args) {
        for (int run = 0; run < RUNS && CHECK.wrong() < 20; run++) {
            new ModelTest(run).go();
        }
        CHECK.end();
    }

    private void go() {
        // Runs differ in how much they make and how much they use, so that some crack, sell or fill up a lot.
        int making = 1 + random.nextInt(8);
        int using = 1 + random.nextInt(16);
        int asking = 1 + random.nextInt(12);
        int texts = random.nextInt(3);
        while (calls < MOST_CALLS - 90) {
            int part = random.nextInt(making + using + asking + texts + 1);
            if (part < making) {
                make();
            } else if (part < making + using) {
                use();
            } else if (part < making + using + asking) {
                ask();
            } else if (part < making + using + asking + texts) {
                text();
            } else {
                turn();
            }
        }
    }

    private void due(String call, long want, long got) {
        calls++;
        CHECK.due(name + calls + ", " + call, want, got);
    }

    /** Mostly a number from 0 to one below the count, sometimes one that is out of range. */
    private int some(int count) {
        int dice = random.nextInt(40);
        if (dice == 0) {
            return random.nextBoolean() ? -1 : Integer.MIN_VALUE + random.nextInt(5);
        }
        if (dice == 1) {
            return random.nextBoolean() ? count : Integer.MAX_VALUE - random.nextInt(5);
        }
        return count <= 0 ? 0 : random.nextInt(count);
    }

    private int from(int first, int last) {
        int dice = random.nextInt(40);
        if (dice < 6) {
            return new int[] {first, last, first - 1, last + 1, Integer.MIN_VALUE, Integer.MAX_VALUE}[dice];
        }
        return first + random.nextInt(last - first + 1);
    }

    private int somePot() {
        return some(model.world.pots.size());
    }

    private int someOrder() {
        return some(model.world.orders.size());
    }

    private int someBlows(int pot) {
        if (random.nextInt(3) > 0) {
            int exact = model.blowsTo(pot, random.nextInt(6) == 0 ? 1 : 0) - (random.nextInt(6) == 0 ? 1 : 0);
            if (exact > 0 && exact < 100) {
                return exact;
            }
        }
        return random.nextBoolean() ? from(1, 99) : from(1, 12);
    }

    private int someCoats() {
        return random.nextBoolean() ? from(1, 3) : from(1, 9);
    }

    private int someMeals() {
        return random.nextBoolean() ? from(1, 9) : from(1, 99);
    }

    private void make() {
        int a;
        int b;
        int c;
        switch (random.nextInt(4)) {
            case 0:
                a = random.nextBoolean() ? from(1, 3) : from(1, 9);
                b = from(10, 60);
                due("sheet(" + a + ", " + b + ")", model.change("sheet", a, b, 0), street.sheet(a, b));
                break;
            case 1:
                a = from(0, 2);
                b = random.nextBoolean() ? from(1, 3) : from(1, 9);
                c = from(1, 99);
                due("baker(" + a + ", " + b + ", " + c + ")", model.change("baker", a, b, c), street.baker(a, b, c));
                break;
            default:
                a = some(model.world.sheets.size());
                b = from(0, 2);
                due("raise(" + a + ", " + b + ")", model.change("raise", a, b, 0), street.raise(a, b));
                break;
        }
        watch();
    }

    private void use() {
        int pot = somePot();
        int number;
        switch (random.nextInt(7)) {
            case 6:
                finish(pot);
                break;
            case 0:
            case 1:
                number = someBlows(pot);
                due("planish(" + pot + ", " + number + ")", model.change("hit", pot, number, 0), street.planish(pot, number));
                break;
            case 2:
                number = someCoats();
                due("tin(" + pot + ", " + number + ")", model.change("tin", pot, number, 0), street.tin(pot, number));
                break;
            case 3:
                number = someMeals();
                due("cook(" + pot + ", " + number + ")", model.change("cook", pot, number, 0), street.cook(pot, number));
                break;
            case 4:
                number = someOrder();
                due("sell(" + pot + ", " + number + ")", model.change("sell", pot, number, 0), street.sell(pot, number));
                break;
            default:
                number = random.nextBoolean() ? from(1, 6) : from(1, 50);
                due("bars(" + number + ")", model.change("bars", number, 0, 0), street.bars(number));
                break;
        }
        watch();
    }

    /** Makes a pot good, has it ordered, and sells it now and then: by chance alone this is rare. */
    private void finish(int pot) {
        int blows = model.blowsTo(pot, 0);
        due("planish(" + pot + ", " + blows + ")", model.change("hit", pot, blows, 0), street.planish(pot, blows));
        int coats = 1 + random.nextInt(4);
        due("tin(" + pot + ", " + coats + ")", model.change("tin", pot, coats, 0), street.tin(pot, coats));
        int kind = Math.max(model.potOf(pot, 0), 0);
        int tin = 1 + random.nextInt(4);
        int pay = from(1, 99);
        due("baker(" + kind + ", " + tin + ", " + pay + ")", model.change("baker", kind, tin, pay), street.baker(kind, tin, pay));
        if (random.nextInt(3) == 0) {
            int order = someOrder();
            int good = random.nextBoolean() ? pot : model.goodFor(order);
            due("sell(" + good + ", " + order + ")", model.change("sell", good, order, 0), street.sell(good, order));
        }
        due("filled()", model.filled(), street.filled());
        due("worth()", model.worth(), street.worth());
    }

    /** Looks after what a call leaves behind most often. */
    private void watch() {
        int depth = random.nextInt(3);
        boolean isDetail = random.nextBoolean();
        due("reason(" + depth + ", " + isDetail + ")", model.reason(depth, isDetail), street.reason(depth, isDetail));
        if (random.nextInt(3) == 0) {
            int what = random.nextInt(16);
            due("account(" + what + ")", model.account(what), street.account(what));
        }
    }

    private void turn() {
        int dice = random.nextInt(40);
        if (dice < 24) {
            due("undo()", model.undo(), street.undo());
        } else if (dice < 32) {
            due("save()", model.save(), street.save());
        } else if (dice < 37) {
            due("restore()", model.restore(), street.restore());
        } else {
            due("clear()", model.clear(), street.clear());
        }
        watch();
        lookRound();
    }

    /** Looks at all numbers of a pot, a sheet and an order. */
    private void lookRound() {
        int pot = somePot();
        for (int what = 0; what < 10; what++) {
            due("potOf(" + pot + ", " + what + ")", model.potOf(pot, what), street.potOf(pot, what));
        }
        due("mealsTo(" + pot + ")", model.mealsTo(pot), street.mealsTo(pot));
        int sheet = some(model.world.sheets.size());
        for (int what = 0; what < 4; what++) {
            due("sheetOf(" + sheet + ", " + what + ")", model.sheetOf(sheet, what), street.sheetOf(sheet, what));
        }
        int order = someOrder();
        for (int what = 0; what < 5; what++) {
            due("orderOf(" + order + ", " + what + ")", model.orderOf(order, what), street.orderOf(order, what));
        }
    }

    private void text() {
        String text = someText();
        for (int i = 0; i < text.length(); i++) {
            char character = text.charAt(i);
            due("append(" + (int) character + ")", model.append(character), street.append(character));
            if (random.nextInt(300) == 0) {
                char odd = new char[] {31, 127, 0, 65535, 200, 10}[random.nextInt(6)];
                due("append(" + (int) odd + ")", model.append(odd), street.append(odd));
            }
        }
        if (random.nextInt(8) > 0) {
            due("read() of " + model.input, model.read(), street.read());
            due("fault()", model.fault, street.fault());
            for (int depth = 0; depth < 3; depth++) {
                due("reason(" + depth + ", true)", model.reason(depth, true), street.reason(depth, true));
                due("reason(" + depth + ", false)", model.reason(depth, false), street.reason(depth, false));
            }
            due("account(14)", model.account(14), street.account(14));
            due("account(15)", model.account(15), street.account(15));
        }
    }

    private String someText() {
        StringBuilder text = new StringBuilder();
        int commands = 1 + random.nextInt(random.nextInt(8) == 0 ? 9 : 3);
        for (int number = 0; number < commands; number++) {
            text.append(number > 0 ? ";" : "").append(someCommand());
        }
        if (random.nextInt(3) == 0) {
            int at = random.nextInt(text.length());
            switch (random.nextInt(4)) {
                case 0: text.setLength(at); break;
                case 1: text.deleteCharAt(at); break;
                case 2: text.insert(at, someSign()); break;
                default: text.setCharAt(at, someSign()); break;
            }
        }
        if (text.length() > 62) {
            text.setLength(62);
        }
        return text.toString();
    }

    private char someSign() {
        String signs = " ;0123456789abcehiklnorst~";
        return signs.charAt(random.nextInt(signs.length()));
    }

    private String someCommand() {
        int pot = random.nextInt(10) == 0 ? random.nextInt(100) : random.nextInt(Math.max(model.world.pots.size(), 1));
        switch (random.nextInt(7)) {
            case 0: return "raise " + random.nextInt(Math.max(model.world.sheets.size(), 1)) + " " + random.nextInt(3);
            case 1: return "tin " + number(pot) + " " + random.nextInt(5);
            case 2: return "cook " + number(pot) + " " + number(random.nextInt(12));
            case 3: return "sell " + pot + " " + random.nextInt(Math.max(model.world.orders.size(), 1));
            case 4: return "bars " + number(random.nextInt(random.nextInt(6) == 0 ? 60 : 4));
            default: return "hit " + number(pot) + " " + number(Math.max(0, Math.min(99, someBlows(pot))));
        }
    }

    private String number(int number) {
        return number < 10 && random.nextInt(4) == 0 ? "0" + number : "" + number;
    }

    private void ask() {
        int pot = somePot();
        int other = somePot();
        int order = someOrder();
        int number;
        switch (random.nextInt(28)) {
            case 0: due("sound(" + pot + ")", model.sound(pot), street.sound(pot)); break;
            case 1: due("soundAgain(" + pot + ")", model.sound(pot), street.soundAgain(pot)); break;
            case 2: due("isAlike(" + pot + ", " + other + ")", model.isAlike(pot, other) ? 1 : 0, street.isAlike(pot, other) ? 1 : 0); break;
            case 3: due("alike()", model.alike(), street.alike()); break;
            case 4: due("ranked(" + pot + ")", model.ranked(pot), street.ranked(pot)); break;
            case 5: number = from(1, 20); due("peal(" + number + ")", model.peal(number), street.peal(number)); break;
            case 6: number = from(0, 120); due("nearest(" + number + ")", model.nearest(number), street.nearest(number)); break;
            case 7: askWouldSound(pot); break;
            case 8: number = some(2); due("blowsTo(" + pot + ", " + number + ")", model.blowsTo(pot, number), street.blowsTo(pot, number)); break;
            case 9: due("mealsTo(" + pot + ")", model.mealsTo(pot), street.mealsTo(pot)); break;
            case 10: number = from(1, 9); due("barsFor(" + pot + ", " + number + ")", model.barsFor(pot, number), street.barsFor(pot, number)); break;
            case 11: due("fits(" + pot + ", " + order + ")", model.fits(pot, order), street.fits(pot, order)); break;
            case 12: due("goodFor(" + order + ")", model.goodFor(order), street.goodFor(order)); break;
            case 13: due("filled()", model.filled(), street.filled()); break;
            case 14: due("worth()", model.worth(), street.worth()); break;
            case 15: due("copper()", model.copper(), street.copper()); break;
            case 16: due("copperAgain()", model.copper(), street.copperAgain()); break;
            case 17: due("coinsAgain()", model.account(0), street.coinsAgain()); break;
            case 18: due("barsAgain()", model.account(1), street.barsAgain()); break;
            case 19: due("meanSound()", Float.floatToIntBits(model.meanSound()), Float.floatToIntBits(street.meanSound())); break;
            case 20: due("soldShare()", Double.doubleToLongBits(model.soldShare()), Double.doubleToLongBits(street.soldShare())); break;
            case 21: number = some(16); due("account(" + number + ")", model.account(number), street.account(number)); break;
            case 22: number = some(4); order = some(model.world.sheets.size()); due("sheetOf(" + order + ", " + number + ")", model.sheetOf(order, number), street.sheetOf(order, number)); break;
            case 23: number = some(5); due("orderOf(" + order + ", " + number + ")", model.orderOf(order, number), street.orderOf(order, number)); break;
            case 24: askLine(pot); break;
            case 25: due("fault()", model.fault, street.fault()); break;
            case 26: number = from(0, 2); due("reason(" + number + ", true)", model.reason(number, true), street.reason(number, true)); break;
            default: number = some(10); due("potOf(" + pot + ", " + number + ")", model.potOf(pot, number), street.potOf(pot, number)); break;
        }
    }

    private void askWouldSound(int pot) {
        int blows = random.nextBoolean() ? someBlows(pot) : from(0, 99);
        int coats = from(0, 9);
        due("wouldSound(" + pot + ", " + blows + ", " + coats + ")", model.wouldSound(pot, blows, coats), street.wouldSound(pot, blows, coats));
    }

    private void askLine(int pot) {
        due("describe(" + pot + ")", model.describe(pot), street.describe(pot));
        for (int index = -1; index <= model.line.length(); index++) {
            due("written(" + index + ")", model.written(index), street.written(index));
        }
    }
}

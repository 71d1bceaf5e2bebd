import java.util.ArrayDeque;
import java.util.ArrayList;
import java.util.Comparator;
import java.util.Deque;
import java.util.List;
import java.util.TreeSet;
import java.util.regex.Matcher;
import java.util.regex.Pattern;

/** The document once more, in the plainest way and without a thought for cost: what CopperStreet is compared with. */
final class Model {
    static final int NONE = -1;
    static final int BAD = -2;
    static final int REFUSED = -3;
    static final int NOTHING = -4;
    private static final int[] AREA = {12, 8, 20};
    private static final Pattern TEXT;

    static {
        String number = "[0-9][0-9]?";
        String digit = "[0-9]";
        String command = "(raise " + number + " " + digit + "|hit " + number + " " + number + "|tin " + number + " " + digit
            + "|cook " + number + " " + number + "|sell " + number + " " + digit + "|bars " + number + ")";
        TEXT = Pattern.compile(command + "(;" + command + ")*");
    }

    record Sheet(int gauge, int area) {
    }

    static final class Pot {
        int kind;
        int sheet;
        int gauge;
        int blows;
        int tin;
        int part;
        int meals;
        int order = NOTHING;

        Pot copy() {
            Pot copy = new Pot();
            copy.kind = kind;
            copy.sheet = sheet;
            copy.gauge = gauge;
            copy.blows = blows;
            copy.tin = tin;
            copy.part = part;
            copy.meals = meals;
            copy.order = order;
            return copy;
        }

        int thickness() {
            int thickness = gauge;
            for (int blow = 2 * AREA[kind] + 1; blow <= blows; blow++) {
                if ((blow - 2 * AREA[kind]) % 6 == 0) {
                    thickness--;
                }
            }
            return thickness < 0 ? 0 : thickness;
        }

        boolean smooth() {
            return blows >= 2 * AREA[kind];
        }

        boolean cracked() {
            return thickness() == 0;
        }

        int sound() {
            if (cracked()) {
                return 0;
            }
            int sound;
            if (kind == 0) {
                sound = 30 + 5 * thickness() - tin;
            } else if (kind == 1) {
                sound = 50 + 4 * thickness() - 2 * tin;
            } else {
                sound = 10 + 3 * thickness() - tin / 2;
            }
            return smooth() ? sound + 2 : sound;
        }

        void cookOne() {
            meals++;
            if (tin > 0) {
                part++;
                int wear = kind == 0 ? 4 : kind == 1 ? 2 : 6;
                if (part == wear) {
                    part = 0;
                    tin--;
                }
            }
        }

        int mealsTo() {
            Pot tried = copy();
            int meals = 0;
            while (tried.tin > 0) {
                tried.cookOne();
                meals++;
            }
            return meals;
        }
    }

    static final class Order {
        int kind;
        int tin;
        int pay;
        int pot = NOTHING;
        int paid;

        Order copy() {
            Order copy = new Order();
            copy.kind = kind;
            copy.tin = tin;
            copy.pay = pay;
            copy.pot = pot;
            copy.paid = paid;
            return copy;
        }
    }

    static final class World {
        final List<Sheet> sheets = new ArrayList<>();
        final List<Pot> pots = new ArrayList<>();
        final List<Order> orders = new ArrayList<>();
        int coins = 30;
        int bars = 20;
        int coats;
        int barsUsed;

        World copy() {
            World copy = new World();
            copy.sheets.addAll(sheets);
            for (Pot pot : pots) {
                copy.pots.add(pot.copy());
            }
            for (Order order : orders) {
                copy.orders.add(order.copy());
            }
            copy.coins = coins;
            copy.bars = bars;
            copy.coats = coats;
            copy.barsUsed = barsUsed;
            return copy;
        }

        int left(int sheet) {
            int left = sheets.get(sheet).area();
            for (Pot pot : pots) {
                if (pot.sheet == sheet) {
                    left -= AREA[pot.kind];
                }
            }
            return left;
        }
    }

    World world = new World();
    World saved = null;
    Deque<World> past = new ArrayDeque<>();
    String input = "";
    String line = "";
    int fault = NOTHING;
    List<int[]> reasons = new ArrayList<>();

    private static boolean in(int number, int from, int to) {
        return from <= number && number <= to;
    }

    private boolean isSheet(int sheet) {
        return in(sheet, 0, world.sheets.size() - 1);
    }

    private boolean isPot(int pot) {
        return in(pot, 0, world.pots.size() - 1);
    }

    private boolean isOrder(int order) {
        return in(order, 0, world.orders.size() - 1);
    }

    private int refused(int reason, int detail) {
        reasons = new ArrayList<>();
        reasons.add(new int[] {reason, detail});
        return REFUSED;
    }

    int clear() {
        int pots = world.pots.size();
        world = new World();
        past.clear();
        return pots;
    }

    int append(char character) {
        if (!in(character, 32, 126) || input.length() == 60) {
            return BAD;
        }
        input += character;
        return input.length();
    }

    /** Makes a change on a copy of the world, so that a call that returns a code can leave nothing behind. */
    int change(String name, int a, int b, int c) {
        World before = world;
        world = before.copy();
        int answer = name.equals("read") ? readCommands() : apply(name, a, b, c);
        if (answer < 0) {
            world = before;
        } else {
            past.push(before);
            while (past.size() > 8) {
                past.removeLast();
            }
        }
        return answer;
    }

    private int apply(String name, int a, int b, int c) {
        switch (name) {
            case "sheet": return sheet(a, b);
            case "raise": return raise(a, b);
            case "hit": return planish(a, b);
            case "bars": return bars(a);
            case "tin": return tin(a, b);
            case "cook": return cook(a, b);
            case "baker": return baker(a, b, c);
            case "sell": return sell(a, b);
            default: throw new IllegalArgumentException(name);
        }
    }

    private int sheet(int gauge, int area) {
        if (!in(gauge, 1, 9) || !in(area, 10, 60)) {
            return BAD;
        }
        if (world.sheets.size() == 12) {
            return refused(1, 12);
        }
        if (gauge > world.coins) {
            return refused(2, gauge - world.coins);
        }
        world.coins -= gauge;
        world.sheets.add(new Sheet(gauge, area));
        return world.sheets.size() - 1;
    }

    private int raise(int sheet, int kind) {
        if (!isSheet(sheet)) {
            return NONE;
        }
        if (!in(kind, 0, 2)) {
            return BAD;
        }
        if (world.pots.size() == 16) {
            return refused(1, 16);
        }
        if (world.left(sheet) < AREA[kind]) {
            return refused(3, AREA[kind] - world.left(sheet));
        }
        Pot pot = new Pot();
        pot.kind = kind;
        pot.sheet = sheet;
        pot.gauge = world.sheets.get(sheet).gauge();
        world.pots.add(pot);
        return world.pots.size() - 1;
    }

    private int planish(int number, int blows) {
        if (!isPot(number)) {
            return NONE;
        }
        if (!in(blows, 1, 99)) {
            return BAD;
        }
        Pot pot = world.pots.get(number);
        if (pot.order != NOTHING) {
            return refused(4, pot.order);
        }
        if (pot.cracked()) {
            return refused(5, number);
        }
        pot.blows += blows;
        return pot.thickness();
    }

    private int bars(int bars) {
        if (!in(bars, 1, 50)) {
            return BAD;
        }
        if (bars > world.coins) {
            return refused(2, bars - world.coins);
        }
        world.coins -= bars;
        world.bars += bars;
        return world.bars;
    }

    private int tin(int number, int coats) {
        if (!isPot(number)) {
            return NONE;
        }
        if (!in(coats, 1, 9)) {
            return BAD;
        }
        Pot pot = world.pots.get(number);
        if (pot.order != NOTHING) {
            return refused(4, pot.order);
        }
        if (pot.cracked()) {
            return refused(5, number);
        }
        if (!pot.smooth()) {
            return refused(6, 2 * AREA[pot.kind] - pot.blows);
        }
        if (pot.tin + coats > 9) {
            return refused(7, pot.tin + coats);
        }
        int bars = barsFor(number, coats);
        if (bars > world.bars) {
            return refused(8, bars - world.bars);
        }
        world.bars -= bars;
        world.barsUsed += bars;
        world.coats += coats;
        pot.tin += coats;
        return pot.tin;
    }

    private int cook(int number, int meals) {
        if (!isPot(number)) {
            return NONE;
        }
        if (!in(meals, 1, 99)) {
            return BAD;
        }
        Pot pot = world.pots.get(number);
        if (pot.order != NOTHING) {
            return refused(4, pot.order);
        }
        if (pot.cracked()) {
            return refused(5, number);
        }
        if (pot.tin == 0) {
            return refused(9, number);
        }
        for (int meal = 0; meal < meals; meal++) {
            pot.cookOne();
        }
        return pot.tin;
    }

    private int baker(int kind, int tin, int pay) {
        if (!in(kind, 0, 2) || !in(tin, 1, 9) || !in(pay, 1, 99)) {
            return BAD;
        }
        if (world.orders.size() == 8) {
            return refused(1, 8);
        }
        Order order = new Order();
        order.kind = kind;
        order.tin = tin;
        order.pay = pay;
        world.orders.add(order);
        return world.orders.size() - 1;
    }

    private int sell(int number, int orderNumber) {
        if (!isPot(number) || !isOrder(orderNumber)) {
            return NONE;
        }
        Pot pot = world.pots.get(number);
        Order order = world.orders.get(orderNumber);
        if (order.pot != NOTHING) {
            return refused(10, order.pot);
        }
        if (pot.order != NOTHING) {
            return refused(4, pot.order);
        }
        int why = fits(number, orderNumber);
        if (why != 0) {
            refused(11, number);
            int wanted = pot.meals == 0 && order.tin < 3 ? 3 : order.tin;
            int[] details = {pot.kind, number, 2 * AREA[pot.kind] - pot.blows, wanted - pot.tin};
            reasons.add(new int[] {why, details[why == 12 ? 0 : why == 5 ? 1 : why == 6 ? 2 : 3]});
            return REFUSED;
        }
        order.pot = number;
        order.paid = payFor(number, orderNumber);
        pot.order = orderNumber;
        world.coins += order.paid;
        return world.coins;
    }

    private int payFor(int pot, int order) {
        int pay = world.orders.get(order).pay;
        return world.pots.get(pot).meals == 0 ? pay : pay / 2;
    }

    int read() {
        String text = input;
        int position = faultOf(text);
        if (position != NOTHING) {
            input = "";
            fault = position;
            return BAD;
        }
        int answer = change("read", 0, 0, 0);
        input = "";
        return answer;
    }

    /** The first character with which the text so far is neither a whole text nor the beginning of one. */
    static int faultOf(String text) {
        for (int length = 0; length <= text.length(); length++) {
            Matcher matcher = TEXT.matcher(text.substring(0, length));
            boolean isText = matcher.matches();
            if (!isText && !matcher.hitEnd()) {
                return length - 1;
            }
            if (!isText && length == text.length()) {
                return length;
            }
        }
        return NOTHING;
    }

    private int readCommands() {
        String[] commands = input.split(";");
        for (int number = 0; number < commands.length; number++) {
            String[] words = commands[number].split(" ");
            int second = words.length > 2 ? Integer.parseInt(words[2]) : 0;
            int answer = apply(words[0], Integer.parseInt(words[1]), second, 0);
            if (answer < 0) {
                List<int[]> behind = answer == REFUSED ? reasons : List.of();
                refused(14, number);
                reasons.addAll(behind);
                return REFUSED;
            }
        }
        return commands.length;
    }

    int reason(int depth, boolean isDetail) {
        if (!in(depth, 0, 2)) {
            return BAD;
        }
        return depth < reasons.size() ? reasons.get(depth)[isDetail ? 1 : 0] : NOTHING;
    }

    int sheetOf(int sheet, int what) {
        if (!isSheet(sheet)) {
            return NONE;
        }
        int raised = 0;
        for (Pot pot : world.pots) {
            raised += pot.sheet == sheet ? 1 : 0;
        }
        int[] told = {world.sheets.get(sheet).gauge(), world.left(sheet), raised, world.sheets.get(sheet).area()};
        return in(what, 0, 3) ? told[what] : BAD;
    }

    int potOf(int number, int what) {
        if (!isPot(number)) {
            return NONE;
        }
        Pot pot = world.pots.get(number);
        int[] told = {pot.kind, pot.gauge, pot.thickness(), pot.blows, pot.tin, pot.meals, pot.smooth() ? 1 : 0,
            pot.cracked() ? 1 : 0, pot.order, pot.sheet};
        return in(what, 0, 9) ? told[what] : BAD;
    }

    int orderOf(int number, int what) {
        if (!isOrder(number)) {
            return NONE;
        }
        Order order = world.orders.get(number);
        int[] told = {order.kind, order.tin, order.pay, order.pot, order.paid};
        return in(what, 0, 4) ? told[what] : BAD;
    }

    int sound(int pot) {
        return isPot(pot) ? world.pots.get(pot).sound() : NONE;
    }

    boolean isAlike(int pot, int other) {
        return isPot(pot) && isPot(other) && in(sound(pot) - sound(other), -2, 2);
    }

    private List<Integer> inShop() {
        List<Integer> numbers = new ArrayList<>();
        for (int pot = 0; pot < world.pots.size(); pot++) {
            if (world.pots.get(pot).order == NOTHING) {
                numbers.add(pot);
            }
        }
        return numbers;
    }

    int alike() {
        int pairs = 0;
        for (int one : inShop()) {
            for (int other : inShop()) {
                pairs += one != other && isAlike(one, other) ? 1 : 0;
            }
        }
        return pairs / 2;
    }

    int ranked(int place) {
        List<Integer> pots = inShop();
        pots.sort(Comparator.comparingInt((Integer pot) -> -sound(pot)).thenComparingInt(pot -> pot));
        return in(place, 0, pots.size() - 1) ? pots.get(place) : NONE;
    }

    int peal(int step) {
        if (!in(step, 1, 20)) {
            return BAD;
        }
        TreeSet<Integer> sounds = new TreeSet<>();
        for (int pot : inShop()) {
            sounds.add(sound(pot));
        }
        return sounds.isEmpty() ? 0 : longestFrom(sounds.first(), step, sounds);
    }

    private int longestFrom(int sound, int step, TreeSet<Integer> sounds) {
        int longest = 0;
        int[] lengths = new int[200];
        for (int lower : sounds.descendingSet()) {
            int best = 0;
            for (int higher : sounds) {
                if (in(higher - lower, 1, step)) {
                    best = Math.max(best, lengths[higher]);
                }
            }
            lengths[lower] = best + 1;
            longest = lower == sound ? lengths[lower] : longest;
        }
        return longest;
    }

    int nearest(int sound) {
        if (!in(sound, 0, 120)) {
            return BAD;
        }
        for (int distance = 0; distance <= 200; distance++) {
            for (int pot : inShop()) {
                if (Math.abs(sound(pot) - sound) == distance) {
                    return pot;
                }
            }
        }
        return NOTHING;
    }

    int wouldSound(int pot, int blows, int coats) {
        if (!isPot(pot)) {
            return NONE;
        }
        if (!in(blows, 0, 99) || !in(coats, 0, 9)) {
            return BAD;
        }
        Pot tried = world.pots.get(pot).copy();
        tried.blows += blows;
        for (int coat = 0; coat < coats && tried.tin < 9; coat++) {
            tried.tin++;
        }
        return tried.sound();
    }

    int blowsTo(int pot, int what) {
        if (!isPot(pot)) {
            return NONE;
        }
        if (!in(what, 0, 1)) {
            return BAD;
        }
        Pot tried = world.pots.get(pot).copy();
        int blows = 0;
        while (what == 0 ? !tried.smooth() : !tried.cracked()) {
            tried.blows++;
            blows++;
        }
        return blows;
    }

    int mealsTo(int pot) {
        return isPot(pot) ? world.pots.get(pot).mealsTo() : NONE;
    }

    int barsFor(int pot, int coats) {
        if (!isPot(pot)) {
            return NONE;
        }
        if (!in(coats, 1, 9)) {
            return BAD;
        }
        int quarters = coats * AREA[world.pots.get(pot).kind];
        return quarters % 4 == 0 ? quarters / 4 : quarters / 4 + 1;
    }

    int fits(int number, int orderNumber) {
        if (!isPot(number) || !isOrder(orderNumber)) {
            return NONE;
        }
        Pot pot = world.pots.get(number);
        Order order = world.orders.get(orderNumber);
        if (pot.kind != order.kind) {
            return 12;
        }
        if (pot.cracked()) {
            return 5;
        }
        if (!pot.smooth()) {
            return 6;
        }
        if (pot.tin < order.tin || pot.meals == 0 && pot.tin < 3) {
            return 13;
        }
        return 0;
    }

    int goodFor(int order) {
        if (!isOrder(order)) {
            return NONE;
        }
        for (int pot : inShop()) {
            if (fits(pot, order) == 0) {
                return pot;
            }
        }
        return NOTHING;
    }

    int filled() {
        return filledFrom(0, inShop());
    }

    private int filledFrom(int order, List<Integer> pots) {
        if (order == world.orders.size()) {
            return 0;
        }
        int most = filledFrom(order + 1, pots);
        if (world.orders.get(order).pot == NOTHING) {
            for (int pot : pots) {
                if (fits(pot, order) == 0) {
                    List<Integer> others = new ArrayList<>(pots);
                    others.remove(Integer.valueOf(pot));
                    most = Math.max(most, 1 + filledFrom(order + 1, others));
                }
            }
        }
        return most;
    }

    int worth() {
        int pay = 0;
        List<Integer> pots = inShop();
        for (int order = 0; order < world.orders.size(); order++) {
            if (world.orders.get(order).pot != NOTHING) {
                continue;
            }
            for (Integer pot : pots) {
                if (fits(pot, order) == 0) {
                    pay += payFor(pot, order);
                    pots.remove(pot);
                    break;
                }
            }
        }
        return pay;
    }

    int copper() {
        int copper = 0;
        for (Sheet sheet : world.sheets) {
            copper += sheet.gauge() * sheet.area();
        }
        return copper;
    }

    int describe(int number) {
        if (!isPot(number)) {
            return NONE;
        }
        Pot pot = world.pots.get(number);
        line = List.of("kettle", "pan", "cauldron").get(pot.kind) + number + ":" + pot.thickness() + (pot.smooth() ? "*" : "")
            + (pot.tin > 0 ? "+" + pot.tin : "") + (pot.cracked() ? "!" : "") + (pot.meals > 0 ? " used" : "")
            + (pot.order != NOTHING ? " sold" : "");
        return line.length();
    }

    int written(int index) {
        return in(index, 0, line.length() - 1) ? line.charAt(index) : NONE;
    }

    float meanSound() {
        int sum = 0;
        for (int pot : inShop()) {
            sum += sound(pot);
        }
        return inShop().isEmpty() ? 0.0f : (float) sum / (float) inShop().size();
    }

    double soldShare() {
        int pots = world.pots.size();
        return pots == 0 ? 0.0 : (double) (pots - inShop().size()) / (double) pots;
    }

    int account(int what) {
        int smooth = 0;
        int cracked = 0;
        int blows = 0;
        int meals = 0;
        for (Pot pot : world.pots) {
            smooth += pot.smooth() ? 1 : 0;
            cracked += pot.cracked() ? 1 : 0;
            blows += pot.blows;
            meals += pot.meals;
        }
        int filled = 0;
        int paid = 0;
        for (Order order : world.orders) {
            filled += order.pot != NOTHING ? 1 : 0;
            paid += order.paid;
        }
        int[] told = {world.coins, world.bars, world.sheets.size(), world.pots.size(), inShop().size(), smooth, cracked,
            world.orders.size(), filled, blows, meals, world.coats, world.barsUsed, paid, input.length(), past.size()};
        return in(what, 0, 15) ? told[what] : BAD;
    }

    int undo() {
        if (past.isEmpty()) {
            return NOTHING;
        }
        world = past.pop();
        return past.size();
    }

    int save() {
        saved = world.copy();
        return world.pots.size();
    }

    int restore() {
        if (saved == null) {
            return NOTHING;
        }
        world = saved.copy();
        past.clear();
        return world.pots.size();
    }
}

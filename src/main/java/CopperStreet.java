/** A street of coppersmiths: its sheets, pots, tin, sounds and orders, as ../shared/DOC.md promises them. */
public final class CopperStreet {
    public static final int NONE = -1;
    public static final int BAD = -2;
    public static final int REFUSED = -3;
    public static final int NOTHING = -4;

    private static final int MOST_SHEETS = 12;
    private static final int MOST_POTS = 16;
    private static final int MOST_ORDERS = 8;
    private static final int MOST_CHANGES = 8;
    private static final int MOST_CHARACTERS = 60;
    // The shortest command has six characters, so that a text never gets as far as a tenth one.
    private static final int MOST_COMMANDS = 10;
    private static final int MOST_REASONS = 3;

    private static final int FIRST_COINS = 30;
    private static final int FIRST_BARS = 20;
    private static final int MOST_GAUGE = 9;
    private static final int LEAST_AREA = 10;
    private static final int MOST_AREA = 60;
    private static final int MOST_BLOWS = 99;
    private static final int BLOWS_TO_THIN = 6;
    private static final int MOST_TIN = 9;
    private static final int TIN_WHEN_NEW = 3;
    private static final int MOST_BARS = 50;
    private static final int MOST_MEALS = 99;
    private static final int MOST_PAY = 99;
    private static final int MOST_STEP = 20;
    private static final int MOST_SOUND = 120;
    private static final int ALIKE_WITHIN = 2;
    private static final int SMOOTH_SOUNDS_MORE = 2;

    private static final int AS_MANY_AS_CAN_BE = 1;
    private static final int TOO_FEW_COINS = 2;
    private static final int SHEET_TOO_SMALL = 3;
    private static final int POT_SOLD = 4;
    private static final int POT_CRACKED = 5;
    private static final int POT_NOT_SMOOTH = 6;
    private static final int TOO_MUCH_TIN = 7;
    private static final int TOO_FEW_BARS = 8;
    private static final int POT_WITHOUT_TIN = 9;
    private static final int ORDER_FILLED = 10;
    private static final int POT_NOT_GOOD = 11;
    private static final int POT_OF_OTHER_KIND = 12;
    private static final int TOO_LITTLE_TIN = 13;
    private static final int COMMAND_FAILED = 14;

    private static final int POT_BLOWS = 3;
    private static final int POT_MEALS = 5;
    private static final int POT_IS_SMOOTH = 6;
    private static final int POT_IS_CRACKED = 7;

    private final Smith smith = new Smith();
    private final Shop shop = smith.shop;
    private final Reasons reasons = smith.reasons;
    private final Shop saved = new Shop();
    private final History history = new History();
    private final Chimes chimes = new Chimes();
    private final Script script = new Script();
    private final StringBuilder line = new StringBuilder();
    private boolean isSaved = false;
    private int faultPosition = NOTHING;

    public CopperStreet() {
    }

    public int clear() {
        int pots = shop.potCount;
        shop.startAnew();
        history.forget();
        return pots;
    }

    public int append(char character) {
        return script.add(character);
    }

    public int sheet(int gauge, int area) {
        history.note(shop);
        return kept(smith.buySheet(gauge, area));
    }

    public int raise(int sheet, int kind) {
        history.note(shop);
        return kept(smith.raisePot(sheet, kind));
    }

    public int planish(int pot, int blows) {
        history.note(shop);
        return kept(smith.hit(pot, blows));
    }

    public int bars(int bars) {
        history.note(shop);
        return kept(smith.buyBars(bars));
    }

    public int tin(int pot, int coats) {
        history.note(shop);
        return kept(smith.coat(pot, coats));
    }

    public int cook(int pot, int meals) {
        history.note(shop);
        return kept(smith.use(pot, meals));
    }

    public int baker(int kind, int tin, int pay) {
        history.note(shop);
        return kept(smith.takeOrder(kind, tin, pay));
    }

    public int sell(int pot, int order) {
        history.note(shop);
        return kept(smith.handOver(pot, order));
    }

    public int read() {
        int answer = BAD;
        if (script.isRight()) {
            history.note(shop);
            answer = kept(carryOut());
        } else {
            faultPosition = script.reached();
        }
        script.empty();
        return answer;
    }

    public int fault() {
        return faultPosition;
    }

    public int reason(int depth, boolean isDetail) {
        if (depth < 0 || depth >= MOST_REASONS) {
            return BAD;
        }
        return reasons.tell(depth, isDetail);
    }

    public int sheetOf(int sheet, int what) {
        Sheet told = shop.sheetAt(sheet);
        return told == null ? NONE : told.tell(what);
    }

    public int potOf(int pot, int what) {
        Pot told = shop.potAt(pot);
        return told == null ? NONE : told.tell(what);
    }

    public int orderOf(int order, int what) {
        Order told = shop.orderAt(order);
        return told == null ? NONE : told.tell(what);
    }

    public int sound(int pot) {
        Pot heard = shop.potAt(pot);
        return heard == null ? NONE : heard.ring();
    }

    public int soundAgain(int pot) {
        Pot heard = shop.potAt(pot);
        return heard == null ? NONE : heard.ringByStep();
    }

    public boolean isAlike(int pot, int other) {
        Pot one = shop.potAt(pot);
        Pot two = shop.potAt(other);
        return one != null && two != null && ringAlike(one.ring(), two.ring());
    }

    public int alike() {
        chimes.listen(shop);
        return chimes.pairs();
    }

    public int ranked(int place) {
        chimes.listen(shop);
        return chimes.atPlace(place);
    }

    public int peal(int step) {
        if (step < 1 || step > MOST_STEP) {
            return BAD;
        }
        chimes.listen(shop);
        return chimes.chain(step);
    }

    public int nearest(int sound) {
        if (sound < 0 || sound > MOST_SOUND) {
            return BAD;
        }
        chimes.listen(shop);
        return chimes.closest(sound);
    }

    public int wouldSound(int pot, int blows, int coats) {
        Pot heard = shop.potAt(pot);
        if (heard == null) {
            return NONE;
        }
        if (blows < 0 || blows > MOST_BLOWS || coats < 0 || coats > MOST_TIN) {
            return BAD;
        }
        return heard.ringWith(heard.blows + blows, Math.min(heard.tin + coats, MOST_TIN));
    }

    public int blowsTo(int pot, int what) {
        Pot hit = shop.potAt(pot);
        if (hit == null) {
            return NONE;
        }
        if (what == 0) {
            return hit.blowsMissing(hit.kind.smoothBlows);
        }
        return what == 1 ? hit.blowsMissing(hit.crackingBlows()) : BAD;
    }

    public int mealsTo(int pot) {
        Pot used = shop.potAt(pot);
        return used == null ? NONE : used.mealsLeft();
    }

    public int barsFor(int pot, int coats) {
        Pot tinned = shop.potAt(pot);
        if (tinned == null) {
            return NONE;
        }
        return coats < 1 || coats > MOST_TIN ? BAD : tinned.kind.barsOf(coats);
    }

    public int fits(int pot, int order) {
        Pot offered = shop.potAt(pot);
        Order wish = shop.orderAt(order);
        return offered == null || wish == null ? NONE : offered.lackFor(wish);
    }

    public int goodFor(int order) {
        Order wish = shop.orderAt(order);
        return wish == null ? NONE : shop.lowestGood(wish, 0);
    }

    public int filled() {
        return shop.mostFilled();
    }

    public int worth() {
        return shop.payInTurn();
    }

    public int copper() {
        return shop.copperByPart();
    }

    public int copperAgain() {
        return shop.copperBySheet();
    }

    public int coinsAgain() {
        return FIRST_COINS + shop.paidSoFar() - shop.sheetsCost() - shop.barsBought;
    }

    public int barsAgain() {
        return FIRST_BARS + shop.barsBought - shop.barsUsed;
    }

    public int describe(int pot) {
        Pot told = shop.potAt(pot);
        if (told == null) {
            return NONE;
        }
        line.setLength(0);
        told.writeTo(line);
        return line.length();
    }

    public int written(int index) {
        return index >= 0 && index < line.length() ? line.charAt(index) : NONE;
    }

    public float meanSound() {
        chimes.listen(shop);
        return chimes.mean();
    }

    public double soldShare() {
        return shop.potCount == 0 ? 0.0 : (double) shop.soldPots() / (double) shop.potCount;
    }

    public int account(int what) {
        switch (what) {
            case 0: return shop.coins;
            case 1: return shop.bars;
            case 2: return shop.sheetCount;
            case 3: return shop.potCount;
            case 4: return shop.potCount - shop.soldPots();
            case 5: return shop.sumOfPots(POT_IS_SMOOTH);
            case 6: return shop.sumOfPots(POT_IS_CRACKED);
            case 7: return shop.orderCount;
            case 8: return shop.soldPots();
            case 9: return shop.sumOfPots(POT_BLOWS);
            case 10: return shop.sumOfPots(POT_MEALS);
            case 11: return shop.coats;
            case 12: return shop.barsUsed;
            case 13: return shop.paidSoFar();
            case 14: return script.length();
            case 15: return history.size();
            default: return BAD;
        }
    }

    public int undo() {
        return history.isEmpty() ? NOTHING : history.takeBack(shop);
    }

    public int save() {
        saved.copyFrom(shop);
        isSaved = true;
        return shop.potCount;
    }

    public int restore() {
        if (!isSaved) {
            return NOTHING;
        }
        shop.copyFrom(saved);
        history.forget();
        return shop.potCount;
    }

    private int kept(int answer) {
        if (answer >= 0) {
            history.keep();
        }
        return answer;
    }

    private int carryOut() {
        for (int number = 0; number < script.size(); number++) {
            int answer = smith.perform(script, number);
            if (answer < 0) {
                history.returnTo(shop);
                return refuseText(number, answer);
            }
        }
        return script.size();
    }

    private int refuseText(int number, int answer) {
        if (answer == REFUSED) {
            return reasons.wrap(COMMAND_FAILED, number);
        }
        return reasons.refuse(COMMAND_FAILED, number);
    }

    private static boolean ringAlike(int one, int other) {
        return Math.abs(one - other) <= ALIKE_WITHIN;
    }

    /** What all pots of a kind have in common. */
    private enum Kind {
        KETTLE("kettle", 0, 12, 4, 30, 5, 2),
        PAN("pan", 1, 8, 2, 50, 4, 4),
        CAULDRON("cauldron", 2, 20, 6, 10, 3, 1);

        private static final Kind[] ALL = values();

        final String word;
        final int number;
        final int area;
        final int smoothBlows;
        final int mealsToWear;
        final int bareSound;
        final int soundByThickness;
        // In halves, since a cauldron loses less than 1 for each of its tin.
        final int halvesByTin;

        Kind(String word, int number, int area, int mealsToWear, int bareSound, int soundByThickness, int halvesByTin) {
            this.word = word;
            this.number = number;
            this.area = area;
            this.smoothBlows = 2 * area;
            this.mealsToWear = mealsToWear;
            this.bareSound = bareSound;
            this.soundByThickness = soundByThickness;
            this.halvesByTin = halvesByTin;
        }

        static Kind numbered(int number) {
            return number >= 0 && number < ALL.length ? ALL[number] : null;
        }

        int barsOf(int coats) {
            return (area * coats + 3) / 4;
        }
    }

    /** The commands of a text: a word, a number, and a second number of so many digits at most. */
    private enum Verb {
        RAISE("raise ", 1),
        HIT("hit ", 2),
        TIN("tin ", 1),
        COOK("cook ", 2),
        SELL("sell ", 1),
        BARS("bars ", 0);

        private static final Verb[] ALL = values();

        final String word;
        final int secondDigits;

        Verb(String word, int secondDigits) {
            this.word = word;
            this.secondDigits = secondDigits;
        }

        // The first letter tells the verb, since no two of them share it.
        static Verb startingWith(char letter) {
            for (int i = 0; i < ALL.length; i++) {
                if (ALL[i].word.indexOf(letter) == 0) {
                    return ALL[i];
                }
            }
            return null;
        }
    }

    private static final class Sheet {
        int gauge = 0;
        int firstArea = 0;
        int area = 0;
        int pots = 0;

        void arrive(int newGauge, int newArea) {
            gauge = newGauge;
            firstArea = newArea;
            area = newArea;
            pots = 0;
        }

        void copyFrom(Sheet other) {
            gauge = other.gauge;
            firstArea = other.firstArea;
            area = other.area;
            pots = other.pots;
        }

        int tell(int what) {
            switch (what) {
                case 0: return gauge;
                case 1: return area;
                case 2: return pots;
                case 3: return firstArea;
                default: return BAD;
            }
        }
    }

    private static final class Order {
        Kind kind = Kind.KETTLE;
        int tin = 0;
        int pay = 0;
        int pot = NOTHING;
        int paid = 0;

        void arrive(Kind newKind, int newTin, int newPay) {
            kind = newKind;
            tin = newTin;
            pay = newPay;
            pot = NOTHING;
            paid = 0;
        }

        void copyFrom(Order other) {
            kind = other.kind;
            tin = other.tin;
            pay = other.pay;
            pot = other.pot;
            paid = other.paid;
        }

        boolean isFilled() {
            return pot != NOTHING;
        }

        int payFor(Pot offered) {
            return offered.isNew() ? pay : pay / 2;
        }

        int tinFor(Pot offered) {
            return offered.isNew() ? Math.max(tin, TIN_WHEN_NEW) : tin;
        }

        int tell(int what) {
            switch (what) {
                case 0: return kind.number;
                case 1: return tin;
                case 2: return pay;
                case 3: return pot;
                case 4: return paid;
                default: return BAD;
            }
        }
    }

    private static final class Pot {
        final int number;
        Kind kind = Kind.KETTLE;
        int sheet = 0;
        int gauge = 0;
        int blows = 0;
        int tin = 0;
        int mealsNotWorn = 0;
        int meals = 0;
        int order = NOTHING;

        Pot(int number) {
            this.number = number;
        }

        void arrive(Kind newKind, int newSheet, int newGauge) {
            kind = newKind;
            sheet = newSheet;
            gauge = newGauge;
            blows = 0;
            tin = 0;
            mealsNotWorn = 0;
            meals = 0;
            order = NOTHING;
        }

        void copyFrom(Pot other) {
            kind = other.kind;
            sheet = other.sheet;
            gauge = other.gauge;
            blows = other.blows;
            tin = other.tin;
            mealsNotWorn = other.mealsNotWorn;
            meals = other.meals;
            order = other.order;
        }

        boolean isSold() {
            return order != NOTHING;
        }

        boolean isNew() {
            return meals == 0;
        }

        int crackingBlows() {
            return kind.smoothBlows + BLOWS_TO_THIN * gauge;
        }

        int blowsMissing(int wanted) {
            return Math.max(wanted - blows, 0);
        }

        boolean isSmooth() {
            return blows >= kind.smoothBlows;
        }

        boolean isCracked() {
            return blows >= crackingBlows();
        }

        int thickness() {
            return thicknessWith(blows);
        }

        int thicknessWith(int allBlows) {
            int beyond = Math.max(allBlows - kind.smoothBlows, 0);
            return Math.max(gauge - beyond / BLOWS_TO_THIN, 0);
        }

        int ring() {
            return ringWith(blows, tin);
        }

        int ringWith(int allBlows, int allTin) {
            int thickness = thicknessWith(allBlows);
            if (thickness == 0) {
                return 0;
            }
            int ring = kind.bareSound + kind.soundByThickness * thickness - kind.halvesByTin * allTin / 2;
            return allBlows >= kind.smoothBlows ? ring + SMOOTH_SOUNDS_MORE : ring;
        }

        int ringByStep() {
            int thickness = thickness();
            if (thickness == 0) {
                return 0;
            }
            int ring = isSmooth() ? kind.bareSound + SMOOTH_SOUNDS_MORE : kind.bareSound;
            for (int step = 0; step < thickness; step++) {
                ring += kind.soundByThickness;
            }
            int halves = 0;
            for (int step = 0; step < tin; step++) {
                for (halves += kind.halvesByTin; halves >= 2; halves -= 2) {
                    ring--;
                }
            }
            return ring;
        }

        void wear(int newMeals) {
            meals += newMeals;
            mealsNotWorn += newMeals;
            while (tin > 0 && mealsNotWorn >= kind.mealsToWear) {
                mealsNotWorn -= kind.mealsToWear;
                tin--;
            }
            if (tin == 0) {
                mealsNotWorn = 0;
            }
        }

        int mealsLeft() {
            return tin == 0 ? 0 : tin * kind.mealsToWear - mealsNotWorn;
        }

        int lackFor(Order wish) {
            if (kind != wish.kind) {
                return POT_OF_OTHER_KIND;
            }
            if (isCracked()) {
                return POT_CRACKED;
            }
            if (!isSmooth()) {
                return POT_NOT_SMOOTH;
            }
            return tin < wish.tinFor(this) ? TOO_LITTLE_TIN : 0;
        }

        int detailOf(int lack, Order wish) {
            switch (lack) {
                case POT_OF_OTHER_KIND: return kind.number;
                case POT_NOT_SMOOTH: return blowsMissing(kind.smoothBlows);
                case TOO_LITTLE_TIN: return wish.tinFor(this) - tin;
                default: return number;
            }
        }

        int tell(int what) {
            switch (what) {
                case 0: return kind.number;
                case 1: return gauge;
                case 2: return thickness();
                case POT_BLOWS: return blows;
                case 4: return tin;
                case POT_MEALS: return meals;
                case POT_IS_SMOOTH: return isSmooth() ? 1 : 0;
                case POT_IS_CRACKED: return isCracked() ? 1 : 0;
                case 8: return order;
                case 9: return sheet;
                default: return BAD;
            }
        }

        void writeTo(StringBuilder line) {
            line.append(kind.word).append(number).append(':').append(thickness());
            if (isSmooth()) {
                line.append('*');
            }
            if (tin > 0) {
                line.append('+').append(tin);
            }
            if (isCracked()) {
                line.append('!');
            }
            if (!isNew()) {
                line.append(" used");
            }
            if (isSold()) {
                line.append(" sold");
            }
        }
    }

    /** All that changes can change. */
    private static final class Shop {
        final Sheet[] sheets = new Sheet[MOST_SHEETS];
        final Pot[] pots = new Pot[MOST_POTS];
        final Order[] orders = new Order[MOST_ORDERS];
        private final int[] goodPots = new int[MOST_ORDERS];
        int sheetCount = 0;
        int potCount = 0;
        int orderCount = 0;
        int coins = FIRST_COINS;
        int bars = FIRST_BARS;
        int barsBought = 0;
        int barsUsed = 0;
        int coats = 0;

        Shop() {
            for (int i = 0; i < sheets.length; i++) {
                sheets[i] = new Sheet();
            }
            for (int i = 0; i < pots.length; i++) {
                pots[i] = new Pot(i);
            }
            for (int i = 0; i < orders.length; i++) {
                orders[i] = new Order();
            }
        }

        // Sheets, pots and orders beyond the counts may hold anything: arrive() sets all of them.
        void startAnew() {
            sheetCount = 0;
            potCount = 0;
            orderCount = 0;
            coins = FIRST_COINS;
            bars = FIRST_BARS;
            barsBought = 0;
            barsUsed = 0;
            coats = 0;
        }

        void copyFrom(Shop other) {
            sheetCount = other.sheetCount;
            potCount = other.potCount;
            orderCount = other.orderCount;
            coins = other.coins;
            bars = other.bars;
            barsBought = other.barsBought;
            barsUsed = other.barsUsed;
            coats = other.coats;
            for (int i = 0; i < sheetCount; i++) {
                sheets[i].copyFrom(other.sheets[i]);
            }
            for (int i = 0; i < potCount; i++) {
                pots[i].copyFrom(other.pots[i]);
            }
            for (int i = 0; i < orderCount; i++) {
                orders[i].copyFrom(other.orders[i]);
            }
        }

        Sheet sheetAt(int number) {
            return number >= 0 && number < sheetCount ? sheets[number] : null;
        }

        Pot potAt(int number) {
            return number >= 0 && number < potCount ? pots[number] : null;
        }

        Order orderAt(int number) {
            return number >= 0 && number < orderCount ? orders[number] : null;
        }

        // A pot is sold for one order, and an order filled by one pot.
        int soldPots() {
            int sold = 0;
            for (int i = 0; i < orderCount; i++) {
                sold += orders[i].isFilled() ? 1 : 0;
            }
            return sold;
        }

        int paidSoFar() {
            int paid = 0;
            for (int i = 0; i < orderCount; i++) {
                paid += orders[i].paid;
            }
            return paid;
        }

        int sheetsCost() {
            int cost = 0;
            for (int i = 0; i < sheetCount; i++) {
                cost += sheets[i].gauge;
            }
            return cost;
        }

        int sumOfPots(int what) {
            int sum = 0;
            for (int i = 0; i < potCount; i++) {
                sum += pots[i].tell(what);
            }
            return sum;
        }

        int copperByPart() {
            int copper = 0;
            for (int i = 0; i < sheetCount; i++) {
                copper += sheets[i].area * sheets[i].gauge;
            }
            for (int i = 0; i < potCount; i++) {
                copper += pots[i].kind.area * pots[i].gauge;
            }
            return copper;
        }

        int copperBySheet() {
            int copper = 0;
            for (int i = 0; i < sheetCount; i++) {
                copper += sheets[i].firstArea * sheets[i].gauge;
            }
            return copper;
        }

        boolean isGood(Pot pot, Order wish) {
            return !pot.isSold() && pot.lackFor(wish) == 0;
        }

        /** The lowest pot that is good and not among the bits of those that are given away, or NOTHING. */
        int lowestGood(Order wish, int given) {
            for (int i = 0; i < potCount; i++) {
                if (((given >> i) & 1) == 0 && isGood(pots[i], wish)) {
                    return i;
                }
            }
            return NOTHING;
        }

        int payInTurn() {
            int pay = 0;
            int given = 0;
            for (int i = 0; i < orderCount; i++) {
                int pot = orders[i].isFilled() ? NOTHING : lowestGood(orders[i], given);
                if (pot >= 0) {
                    given |= 1 << pot;
                    pay += orders[i].payFor(pots[pot]);
                }
            }
            return pay;
        }

        // By Hall's theorem as many orders stay open as, in the worst set of them, exceed the pots good for the set.
        int mostFilled() {
            int open = listGoodPots();
            int most = open;
            for (int set = 1; set < 1 << open; set++) {
                int outside = open - Integer.bitCount(set);
                most = Math.min(most, outside + Integer.bitCount(potsGoodFor(set, open)));
            }
            return most;
        }

        private int listGoodPots() {
            int open = 0;
            for (int i = 0; i < orderCount; i++) {
                if (!orders[i].isFilled()) {
                    goodPots[open] = allGood(orders[i]);
                    open++;
                }
            }
            return open;
        }

        private int allGood(Order wish) {
            int good = 0;
            for (int i = 0; i < potCount; i++) {
                if (isGood(pots[i], wish)) {
                    good |= 1 << i;
                }
            }
            return good;
        }

        private int potsGoodFor(int set, int open) {
            int good = 0;
            for (int i = 0; i < open; i++) {
                if (((set >> i) & 1) == 1) {
                    good |= goodPots[i];
                }
            }
            return good;
        }
    }

    /** Why something was refused last, the outermost reason first. */
    private static final class Reasons {
        private final int[] numbers = new int[MOST_REASONS];
        private final int[] details = new int[MOST_REASONS];
        private int count = 0;

        int refuse(int number, int detail) {
            count = 0;
            return wrap(number, detail);
        }

        /** Puts a reason in front of those that were told before, which stand behind it then. */
        int wrap(int number, int detail) {
            for (int i = Math.min(count, MOST_REASONS - 1); i > 0; i--) {
                numbers[i] = numbers[i - 1];
                details[i] = details[i - 1];
            }
            numbers[0] = number;
            details[0] = detail;
            count = Math.min(count + 1, MOST_REASONS);
            return REFUSED;
        }

        int tell(int depth, boolean isDetail) {
            if (depth < 0 || depth >= count) {
                return NOTHING;
            }
            return isDetail ? details[depth] : numbers[depth];
        }
    }

    /** The latest states, with one place more than can be undone: a change is noted before it is known to succeed. */
    private static final class History {
        private final Shop[] shops = new Shop[MOST_CHANGES + 1];
        private int next = 0;
        private int count = 0;

        History() {
            for (int i = 0; i < shops.length; i++) {
                shops[i] = new Shop();
            }
        }

        int size() {
            return count;
        }

        boolean isEmpty() {
            return count == 0;
        }

        void forget() {
            count = 0;
        }

        void note(Shop shop) {
            shops[next].copyFrom(shop);
        }

        void returnTo(Shop shop) {
            shop.copyFrom(shops[next]);
        }

        void keep() {
            next = (next + 1) % (MOST_CHANGES + 1);
            count = Math.min(count + 1, MOST_CHANGES);
        }

        int takeBack(Shop shop) {
            next = (next + MOST_CHANGES) % (MOST_CHANGES + 1);
            count--;
            returnTo(shop);
            return count;
        }
    }

    /** Changes its shop, or refuses to and tells the reasons. */
    private static final class Smith {
        final Shop shop = new Shop();
        final Reasons reasons = new Reasons();

        int buySheet(int gauge, int area) {
            if (gauge < 1 || gauge > MOST_GAUGE || area < LEAST_AREA || area > MOST_AREA) {
                return BAD;
            }
            int number = shop.sheetCount;
            if (number >= MOST_SHEETS) {
                return reasons.refuse(AS_MANY_AS_CAN_BE, MOST_SHEETS);
            }
            if (shop.coins < gauge) {
                return reasons.refuse(TOO_FEW_COINS, gauge - shop.coins);
            }
            shop.coins -= gauge;
            shop.sheets[number].arrive(gauge, area);
            shop.sheetCount++;
            return number;
        }

        int raisePot(int sheetNumber, int kindNumber) {
            Sheet sheet = shop.sheetAt(sheetNumber);
            if (sheet == null) {
                return NONE;
            }
            Kind kind = Kind.numbered(kindNumber);
            if (kind == null) {
                return BAD;
            }
            int number = shop.potCount;
            if (number >= MOST_POTS) {
                return reasons.refuse(AS_MANY_AS_CAN_BE, MOST_POTS);
            }
            if (sheet.area < kind.area) {
                return reasons.refuse(SHEET_TOO_SMALL, kind.area - sheet.area);
            }
            sheet.area -= kind.area;
            sheet.pots++;
            shop.pots[number].arrive(kind, sheetNumber, sheet.gauge);
            shop.potCount++;
            return number;
        }

        int hit(int potNumber, int blows) {
            Pot pot = shop.potAt(potNumber);
            if (pot == null) {
                return NONE;
            }
            if (blows < 1 || blows > MOST_BLOWS) {
                return BAD;
            }
            if (!isWorkable(pot)) {
                return REFUSED;
            }
            pot.blows += blows;
            return pot.thickness();
        }

        int buyBars(int bars) {
            if (bars < 1 || bars > MOST_BARS) {
                return BAD;
            }
            if (shop.coins < bars) {
                return reasons.refuse(TOO_FEW_COINS, bars - shop.coins);
            }
            shop.coins -= bars;
            shop.bars += bars;
            shop.barsBought += bars;
            return shop.bars;
        }

        int coat(int potNumber, int coats) {
            Pot pot = shop.potAt(potNumber);
            if (pot == null) {
                return NONE;
            }
            if (coats < 1 || coats > MOST_TIN) {
                return BAD;
            }
            if (!isWorkable(pot)) {
                return REFUSED;
            }
            if (!pot.isSmooth()) {
                return reasons.refuse(POT_NOT_SMOOTH, pot.blowsMissing(pot.kind.smoothBlows));
            }
            if (pot.tin + coats > MOST_TIN) {
                return reasons.refuse(TOO_MUCH_TIN, pot.tin + coats);
            }
            int bars = pot.kind.barsOf(coats);
            if (shop.bars < bars) {
                return reasons.refuse(TOO_FEW_BARS, bars - shop.bars);
            }
            shop.bars -= bars;
            shop.barsUsed += bars;
            shop.coats += coats;
            pot.tin += coats;
            return pot.tin;
        }

        int use(int potNumber, int meals) {
            Pot pot = shop.potAt(potNumber);
            if (pot == null) {
                return NONE;
            }
            if (meals < 1 || meals > MOST_MEALS) {
                return BAD;
            }
            if (!isWorkable(pot)) {
                return REFUSED;
            }
            if (pot.tin == 0) {
                return reasons.refuse(POT_WITHOUT_TIN, potNumber);
            }
            pot.wear(meals);
            return pot.tin;
        }

        int takeOrder(int kindNumber, int tin, int pay) {
            Kind kind = Kind.numbered(kindNumber);
            if (kind == null || tin < 1 || tin > MOST_TIN || pay < 1 || pay > MOST_PAY) {
                return BAD;
            }
            int number = shop.orderCount;
            if (number >= MOST_ORDERS) {
                return reasons.refuse(AS_MANY_AS_CAN_BE, MOST_ORDERS);
            }
            shop.orders[number].arrive(kind, tin, pay);
            shop.orderCount++;
            return number;
        }

        int handOver(int potNumber, int orderNumber) {
            Pot pot = shop.potAt(potNumber);
            Order order = shop.orderAt(orderNumber);
            if (pot == null || order == null) {
                return NONE;
            }
            if (order.isFilled()) {
                return reasons.refuse(ORDER_FILLED, order.pot);
            }
            if (pot.isSold()) {
                return reasons.refuse(POT_SOLD, pot.order);
            }
            int lack = pot.lackFor(order);
            if (lack != 0) {
                reasons.refuse(lack, pot.detailOf(lack, order));
                return reasons.wrap(POT_NOT_GOOD, potNumber);
            }
            order.pot = potNumber;
            order.paid = order.payFor(pot);
            pot.order = orderNumber;
            shop.coins += order.paid;
            return shop.coins;
        }

        int perform(Script script, int number) {
            Verb verb = script.verbAt(number);
            int first = script.firstAt(number);
            int second = script.secondAt(number);
            if (verb == Verb.RAISE) {
                return raisePot(first, second);
            }
            if (verb == Verb.HIT) {
                return hit(first, second);
            }
            if (verb == Verb.TIN) {
                return coat(first, second);
            }
            if (verb == Verb.COOK) {
                return use(first, second);
            }
            return verb == Verb.SELL ? handOver(first, second) : buyBars(first);
        }

        // Sold and cracked pots are refused in this order by all work on a pot.
        private boolean isWorkable(Pot pot) {
            if (pot.isSold()) {
                reasons.refuse(POT_SOLD, pot.order);
                return false;
            }
            if (pot.isCracked()) {
                reasons.refuse(POT_CRACKED, pot.number);
                return false;
            }
            return true;
        }
    }

    /** The sounds of the pots in the shop, by the numbers of the pots. */
    private static final class Chimes {
        private static final int NOT_IN_SHOP = -1;

        private final int[] sounds = new int[MOST_POTS];
        private int size = 0;

        void listen(Shop shop) {
            size = shop.potCount;
            for (int i = 0; i < size; i++) {
                Pot pot = shop.pots[i];
                sounds[i] = pot.isSold() ? NOT_IN_SHOP : pot.ring();
            }
        }

        int pairs() {
            int pairs = 0;
            for (int i = 0; i < size; i++) {
                for (int j = 0; j < i; j++) {
                    if (sounds[i] >= 0 && sounds[j] >= 0 && ringAlike(sounds[i], sounds[j])) {
                        pairs++;
                    }
                }
            }
            return pairs;
        }

        int atPlace(int place) {
            for (int i = 0; i < size; i++) {
                if (sounds[i] >= 0 && aheadOf(i) == place) {
                    return i;
                }
            }
            return NONE;
        }

        private int aheadOf(int pot) {
            int ahead = 0;
            for (int i = 0; i < size; i++) {
                if (sounds[i] > sounds[pot] || (sounds[i] == sounds[pot] && i < pot)) {
                    ahead++;
                }
            }
            return ahead;
        }

        // The longest way up takes every sound that there is, until the next one is too far.
        int chain(int step) {
            int last = lowestAbove(NOT_IN_SHOP);
            if (last == NOT_IN_SHOP) {
                return 0;
            }
            for (int length = 1; length < size; length++) {
                int next = lowestAbove(last);
                if (next == NOT_IN_SHOP || next - last > step) {
                    return length;
                }
                last = next;
            }
            return size;
        }

        private int lowestAbove(int sound) {
            int lowest = NOT_IN_SHOP;
            for (int i = 0; i < size; i++) {
                if (sounds[i] > sound && (lowest == NOT_IN_SHOP || sounds[i] < lowest)) {
                    lowest = sounds[i];
                }
            }
            return lowest;
        }

        int closest(int sound) {
            int closest = NOTHING;
            for (int i = 0; i < size; i++) {
                if (sounds[i] >= 0 && (closest < 0 || Math.abs(sounds[i] - sound) < Math.abs(sounds[closest] - sound))) {
                    closest = i;
                }
            }
            return closest;
        }

        float mean() {
            int sum = 0;
            int ringing = 0;
            for (int i = 0; i < size; i++) {
                if (sounds[i] >= 0) {
                    sum += sounds[i];
                    ringing++;
                }
            }
            return ringing == 0 ? 0.0f : (float) sum / (float) ringing;
        }
    }

    /** The input, and the commands that it tells. */
    private static final class Script {
        private final StringBuilder text = new StringBuilder();
        private final Verb[] verbs = new Verb[MOST_COMMANDS];
        private final int[] firsts = new int[MOST_COMMANDS];
        private final int[] seconds = new int[MOST_COMMANDS];
        private int count = 0;
        private int at = 0;

        int add(char character) {
            if (character < 32 || character > 126 || text.length() >= MOST_CHARACTERS) {
                return BAD;
            }
            text.append(character);
            return text.length();
        }

        int length() {
            return text.length();
        }

        void empty() {
            text.setLength(0);
        }

        int size() {
            return count;
        }

        /** How far the text was right when it was looked at. */
        int reached() {
            return at;
        }

        Verb verbAt(int number) {
            return number >= 0 && number < count ? verbs[number] : Verb.BARS;
        }

        int firstAt(int number) {
            return number >= 0 && number < count ? firsts[number] : 0;
        }

        int secondAt(int number) {
            return number >= 0 && number < count ? seconds[number] : 0;
        }

        boolean isRight() {
            at = 0;
            for (int number = 0; number < MOST_COMMANDS; number++) {
                if (!takeCommand(number)) {
                    return false;
                }
                count = number + 1;
                if (!take(';')) {
                    return at == text.length();
                }
            }
            return false;
        }

        private boolean takeCommand(int number) {
            Verb verb = at < text.length() ? Verb.startingWith(text.charAt(at)) : null;
            if (verb == null || !takeWord(verb.word)) {
                return false;
            }
            verbs[number] = verb;
            firsts[number] = takeNumber(2);
            seconds[number] = 0;
            if (firsts[number] < 0 || verb.secondDigits == 0) {
                return firsts[number] >= 0;
            }
            if (!take(' ')) {
                return false;
            }
            seconds[number] = takeNumber(verb.secondDigits);
            return seconds[number] >= 0;
        }

        private boolean takeWord(String word) {
            for (int i = 0; i < word.length(); i++) {
                if (!take(word.charAt(i))) {
                    return false;
                }
            }
            return true;
        }

        private boolean take(char sign) {
            if (at < text.length() && text.charAt(at) == sign) {
                at++;
                return true;
            }
            return false;
        }

        private int takeNumber(int mostDigits) {
            int number = NONE;
            for (int digits = 0; digits < mostDigits && isAtDigit(); digits++) {
                number = Math.max(number, 0) * 10 + text.charAt(at) - '0';
                at++;
            }
            return number;
        }

        private boolean isAtDigit() {
            return at < text.length() && text.charAt(at) >= '0' && text.charAt(at) <= '9';
        }
    }
}

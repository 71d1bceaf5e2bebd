/** Promises 3, 12 and 13, sentence by sentence: the input, its commands, and its faults. */
public final class TextEdgesTest {
    private static final int BAD = CopperStreet.BAD;
    private static final int REFUSED = CopperStreet.REFUSED;
    private static final int NOTHING = CopperStreet.NOTHING;
    private static final String SIXTY = "bars 1;bars 1;bars 1;bars 1;bars 1;bars 01;bars 01;bars 01;z";

    public static void main(String[] args) throws ReflectiveOperationException {
        Edges.run(TextEdgesTest.class);
    }

    private static void faultDue(Check check, String text, int position) {
        CopperStreet x = new CopperStreet();
        check.due("read() of \"" + text + "\"", BAD, Check.read(x, text));
        check.due("fault() of \"" + text + "\"", position, x.fault());
    }

    /** The text is carried out, or refused for what its numbers say: it has no fault. */
    private static void noFaultDue(Check check, String text) {
        CopperStreet x = new CopperStreet();
        check.due("read() of \"" + text + "\" is BAD", false, Check.read(x, text) == BAD);
        check.due("fault() of \"" + text + "\"", NOTHING, x.fault());
    }

    // Promise 3: "Appends a character to the input."
    // Promise 3: "Returns the length of the input then"
    // Broken in Script.add: return text.length(); => return text.length() - 1;
    // Broken in Script.add: text.append(character); => ;
    static void appendReturnsTheLength(Check check) {
        CopperStreet x = new CopperStreet();
        check.due("append('b')", 1, x.append('b'));
        check.due("append('a')", 2, x.append('a'));
        check.due("account(14)", 2, x.account(14));
    }

    // Promise 3: "BAD if its code is out of range"
    // Promise 3, Terms: "with codes from 32"
    // Broken in Script.add: character < 32 => character < 31
    // Broken in Script.add: character < 32 => character < 33
    static void theLowestCodeIs32(Check check) {
        CopperStreet x = new CopperStreet();
        check.due("append(31)", BAD, x.append((char) 31));
        check.due("append(0)", BAD, x.append((char) 0));
        check.due("append(10)", BAD, x.append((char) 10));
        check.due("append(32)", 1, x.append((char) 32));
    }

    // Promise 3: "BAD if its code is out of range"
    // Promise 3, Terms: "with codes from 32 to 126"
    // Broken in Script.add: character > 126 => character > 127
    // Broken in Script.add: character > 126 => character > 125
    // Broken in Script.add: character > 126 => (byte) character > 126
    static void theHighestCodeIs126(Check check) {
        CopperStreet x = new CopperStreet();
        check.due("append(127)", BAD, x.append((char) 127));
        check.due("append(255)", BAD, x.append((char) 255));
        check.due("append(256 + 65)", BAD, x.append((char) (256 + 65)));
        check.due("append(65535)", BAD, x.append((char) 65535));
        check.due("append(126)", 1, x.append((char) 126));
    }

    // Promise 3: "or there are 60"
    // Promise 3, Terms: "The input has at most 60 characters"
    // Broken in CopperStreet: MOST_CHARACTERS = 60 => MOST_CHARACTERS = 59
    // Broken in CopperStreet: MOST_CHARACTERS = 60 => MOST_CHARACTERS = 61
    static void sixtyCharactersAtMost(Check check) {
        CopperStreet x = new CopperStreet();
        for (int length = 1; length <= 60; length++) {
            check.due("append('a')", length, x.append('a'));
        }
        check.due("append('a') beyond 60", BAD, x.append('a'));
        check.due("account(14)", 60, x.account(14));
    }

    // Promise 3, Terms: "A call that returns a code leaves everything as it was"
    // Broken in Script.add: return BAD; => text.setLength(0); return BAD;
    static void aCharacterThatIsNotAppendedLeavesTheInput(Check check) {
        CopperStreet x = new CopperStreet();
        Check.type(x, "bars");
        x.append((char) 127);
        check.due("account(14)", 4, x.account(14));
        Check.type(x, " 5");
        check.due("read()", 1, x.read());
        check.due("bars", 25, x.account(1));
    }

    // Promise 12: "Carries out the commands of the input, one after the other"
    // Broken in CopperStreet.carryOut: int number = 0; number < script.size(); number++ => int number = script.size() - 1; number >= 0; number--
    static void commandsAreCarriedOutInOrder(Check check) {
        CopperStreet x = new CopperStreet();
        x.sheet(3, 60);
        check.due("read()", 4, Check.read(x, "raise 0 0;hit 0 24;tin 0 2;cook 0 4"));
        check.due("tin", 1, x.potOf(0, 4));
        check.due("meals", 4, x.potOf(0, 5));
    }

    // Promise 12: "all of them or none"
    // Broken in CopperStreet.carryOut: history.returnTo(shop); => ;
    static void allCommandsOrNone(Check check) {
        CopperStreet x = new CopperStreet();
        x.sheet(3, 20);
        check.due("read()", REFUSED, Check.read(x, "raise 0 0;hit 0 24;tin 0 2;bars 3;raise 0 0"));
        check.due("pots", 0, x.account(3));
        check.due("area left", 20, x.sheetOf(0, 1));
        check.due("bars", 20, x.account(1));
        check.due("coins", 27, x.account(0));
        check.due("blows so far", 0, x.account(9));
        check.due("changes", 1, x.account(15));
    }

    // Promise 12: "all of them or none"
    // Broken in CopperStreet.read: if (script.isRight()) => if (script.isRight() | carryOut() > 0)
    static void aTextWithAFaultAtItsEndDoesNothing(Check check) {
        CopperStreet x = new CopperStreet();
        check.due("read()", BAD, Check.read(x, "bars 3;bars 4;"));
        check.due("bars", 20, x.account(1));
        check.due("changes", 0, x.account(15));
    }

    // Promise 12: "The input is empty then, whatever is returned."
    // Promise 12, Terms: "except that read empties the input"
    // Broken in CopperStreet.read: script.empty(); => if (answer < 0) { script.empty(); }
    static void theInputIsEmptyAfterATextThatIsCarriedOut(Check check) {
        CopperStreet x = new CopperStreet();
        check.due("read()", 1, Check.read(x, "bars 3"));
        check.due("account(14)", 0, x.account(14));
        check.due("append('b')", 1, x.append('b'));
    }

    // Promise 12: "The input is empty then, whatever is returned."
    // Promise 12, Terms: "except that read empties the input"
    // Broken in CopperStreet.read: script.empty(); => if (answer != BAD) { script.empty(); }
    static void theInputIsEmptyAfterATextWithAFault(Check check) {
        CopperStreet x = new CopperStreet();
        check.due("read()", BAD, Check.read(x, "bars 3x"));
        check.due("account(14)", 0, x.account(14));
        check.due("read() of what comes next", 1, Check.read(x, "bars 3"));
    }

    // Promise 12: "The input is empty then, whatever is returned."
    // Promise 12, Terms: "except that read empties the input"
    // Broken in CopperStreet.read: script.empty(); => if (answer != REFUSED) { script.empty(); }
    static void theInputIsEmptyAfterATextThatIsRefused(Check check) {
        CopperStreet x = new CopperStreet();
        check.due("read()", REFUSED, Check.read(x, "bars 31"));
        check.due("account(14)", 0, x.account(14));
        check.due("read() of what comes next", 1, Check.read(x, "bars 3"));
    }

    // Promise 12: "Returns the number of commands"
    // Broken in CopperStreet.carryOut: return script.size(); => return 1;
    // Broken in CopperStreet: MOST_COMMANDS = 10 => MOST_COMMANDS = 7
    static void readReturnsTheNumberOfCommands(Check check) {
        CopperStreet x = new CopperStreet();
        check.due("one command", 1, Check.read(x, "bars 1"));
        check.due("two commands", 2, Check.read(x, "bars 1;bars 1"));
        check.due("eight commands, as many as 60 characters hold", 8,
            Check.read(x, "bars 1;bars 1;bars 1;bars 1;bars 01;bars 01;bars 01;bars 01"));
        check.due("bars", 31, x.account(1));
    }

    // Promise 12: "BAD, where the fault position is kept"
    // Promise 12, Terms: "and that reasons and fault positions are kept"
    // Broken in CopperStreet.read: faultPosition = script.reached(); => ;
    static void aTextWithAFaultKeepsItsPosition(Check check) {
        CopperStreet x = new CopperStreet();
        check.due("read()", BAD, Check.read(x, "bars 1;hot 0 1"));
        check.due("fault()", 8, x.fault());
    }

    // Promise 12: "BAD, where the fault position is kept"
    // Promise 12, Terms: "at most 60 characters"
    // Broken in Script.isRight: number < MOST_COMMANDS => number < 7
    static void aTextOf60CharactersHasItsFaultAtItsEnd(Check check) {
        CopperStreet x = new CopperStreet();
        Check.type(x, SIXTY);
        check.due("account(14)", 60, x.account(14));
        check.due("read()", BAD, x.read());
        check.due("fault()", 59, x.fault());
        String nine = "bars 1;bars 1;bars 1;bars 1;bars 1;bars 1;bars 1;bars 1;bars";
        check.due("read() of a ninth command cut short", BAD, Check.read(x, nine));
        check.due("fault()", 60, x.fault());
    }

    // Promise 12: "REFUSED for 14"
    // Promise 12, Terms: "14, a command of a text would return a code: its number, from 0."
    // Broken in CopperStreet.carryOut: refuseText(number, answer) => refuseText(number + 1, answer)
    // Broken in CopperStreet.carryOut: if (answer < 0) => if (answer < 0 && number > 0)
    static void aTextIsRefusedForItsFirstCommand(Check check) {
        CopperStreet x = new CopperStreet();
        check.due("read()", REFUSED, Check.read(x, "bars 31;bars 1"));
        check.reasonDue(x, 0, 14, 0);
    }

    // Promise 12: "REFUSED for 14"
    // Promise 12, Terms: "14, a command of a text would return a code: its number, from 0."
    // Broken in CopperStreet.carryOut: if (answer < 0) => if (answer < 0 && number < script.size() - 1)
    // Broken in CopperStreet.carryOut: refuseText(number, answer) => refuseText(0, answer)
    static void aTextIsRefusedForItsLastCommand(Check check) {
        CopperStreet x = new CopperStreet();
        check.due("read()", REFUSED, Check.read(x, "bars 1;bars 1;bars 29"));
        check.reasonDue(x, 0, 14, 2);
        check.reasonDue(x, 1, 2, 1);
    }

    // Promise 12, Terms: "14, a command of a text would return a code"
    // Broken in CopperStreet.carryOut: if (answer < 0) => if (answer == REFUSED)
    // Broken in CopperStreet.carryOut: if (answer < 0) => if (answer == REFUSED || answer == BAD)
    // Broken in CopperStreet.carryOut: if (answer < 0) => if (answer == REFUSED || answer == NONE)
    static void everyCodeOfACommandRefusesTheText(Check check) {
        CopperStreet x = new CopperStreet();
        check.due("read() of a command that returns NONE", REFUSED, Check.read(x, "bars 1;hit 0 1"));
        check.reasonDue(x, 0, 14, 1);
        check.due("read() of a command that returns BAD", REFUSED, Check.read(x, "bars 0"));
        check.reasonDue(x, 0, 14, 0);
        check.due("bars", 20, x.account(1));
        check.due("fault()", NOTHING, x.fault());
    }

    // Promise 12, Terms: "If several codes apply, the one that is named first is returned."
    // Broken in CopperStreet.read: if (script.isRight()) => if (script.isRight() || script.size() > 0)
    static void aTextIsBadBeforeItIsRefused(Check check) {
        CopperStreet x = new CopperStreet();
        check.due("read()", BAD, Check.read(x, "hit 0 1;x"));
        check.due("reason(0, false)", NOTHING, x.reason(0, false));
    }

    // Promise 12, Terms: "`text = command { ";" command`}"
    // Broken in Script.isRight: if (!take(';')) => if (!take(','))
    // Broken in Script.isRight: return at == text.length(); => return true;
    static void commandsAreParted(Check check) {
        noFaultDue(check, "bars 1;bars 1;bars 1");
        faultDue(check, "", 0);
        faultDue(check, ";", 0);
        faultDue(check, "bars 1;", 7);
        faultDue(check, "bars 1;;bars 1", 7);
        faultDue(check, "bars 1; bars 1", 7);
        faultDue(check, "bars 1 ;bars 1", 6);
        faultDue(check, "bars 1,bars 1", 6);
        faultDue(check, "bars 1bars 1", 6);
        faultDue(check, " bars 1", 0);
        faultDue(check, "bars 1 ", 6);
    }

    // Promise 12, Terms: "`command = "raise " number " " digit"
    // Broken in Verb: RAISE("raise ", 1) => RAISE("raise ", 2)
    static void raiseHasANumberAndADigit(Check check) {
        noFaultDue(check, "raise 0 0");
        noFaultDue(check, "raise 99 9");
        faultDue(check, "raise 123 0", 8);
        faultDue(check, "raise 12", 8);
        faultDue(check, "raise 12 ", 9);
        faultDue(check, "raise 1 10", 9);
    }

    // Promise 12, Terms: "| "hit " number " " number"
    // Broken in Verb: HIT("hit ", 2) => HIT("hit ", 1)
    // Broken in Verb: HIT("hit ", 2) => HIT("hit ", 3)
    static void hitHasTwoNumbers(Check check) {
        noFaultDue(check, "hit 0 0");
        noFaultDue(check, "hit 99 99");
        faultDue(check, "hit 123 0", 6);
        faultDue(check, "hit 12", 6);
        faultDue(check, "hit 12 ", 7);
        faultDue(check, "hit 1 100", 8);
    }

    // Promise 12, Terms: "| "tin " number " " digit"
    // Broken in Verb: TIN("tin ", 1) => TIN("tin ", 2)
    static void tinHasANumberAndADigit(Check check) {
        noFaultDue(check, "tin 0 0");
        noFaultDue(check, "tin 99 9");
        faultDue(check, "tin 123 0", 6);
        faultDue(check, "tin 12", 6);
        faultDue(check, "tin 12 ", 7);
        faultDue(check, "tin 1 10", 7);
    }

    // Promise 12, Terms: "| "cook " number " " number"
    // Broken in Verb: COOK("cook ", 2) => COOK("cook ", 1)
    // Broken in Verb: COOK("cook ", 2) => COOK("cook ", 3)
    static void cookHasTwoNumbers(Check check) {
        noFaultDue(check, "cook 0 0");
        noFaultDue(check, "cook 99 99");
        faultDue(check, "cook 123 0", 7);
        faultDue(check, "cook 12", 7);
        faultDue(check, "cook 12 ", 8);
        faultDue(check, "cook 1 100", 9);
    }

    // Promise 12, Terms: "| "sell " number " " digit"
    // Broken in Verb: SELL("sell ", 1) => SELL("sell ", 2)
    static void sellHasANumberAndADigit(Check check) {
        noFaultDue(check, "sell 0 0");
        noFaultDue(check, "sell 99 9");
        faultDue(check, "sell 123 0", 7);
        faultDue(check, "sell 12", 7);
        faultDue(check, "sell 12 ", 8);
        faultDue(check, "sell 1 10", 8);
    }

    // Promise 12, Terms: "| "bars " number`"
    // Broken in Verb: BARS("bars ", 0) => BARS("bars ", 1)
    static void barsHasANumber(Check check) {
        noFaultDue(check, "bars 0");
        noFaultDue(check, "bars 99");
        faultDue(check, "bars 123", 7);
        faultDue(check, "bars 1 1", 6);
        faultDue(check, "bars ", 5);
        faultDue(check, "bars  1", 5);
    }

    // Promise 12, Terms: "`number = digit [ digit ]`"
    // Broken in Script.takeCommand: firsts[number] = takeNumber(2) => firsts[number] = takeNumber(1)
    // Broken in Script.takeCommand: firsts[number] = takeNumber(2) => firsts[number] = takeNumber(3)
    // Broken in Script.takeNumber: * 10 + text => * 1 + text
    static void aNumberHasOneOrTwoDigits(Check check) {
        CopperStreet x = new CopperStreet();
        check.due("read() of one digit", 1, Check.read(x, "bars 7"));
        check.due("bars", 27, x.account(1));
        check.due("read() of two digits", 1, Check.read(x, "bars 12"));
        check.due("bars", 39, x.account(1));
        check.due("read() of a 0 ahead", 1, Check.read(x, "bars 01"));
        check.due("bars", 40, x.account(1));
        faultDue(check, "bars 001", 7);
    }

    // Promise 12, Terms: "`number = digit [ digit ]`"
    // Broken in Script.takeCommand: firsts[number] < 0 || => firsts[number] < -1 ||
    // Broken in Script.takeCommand: return seconds[number] >= 0; => return true;
    static void aNumberHasOneDigitAtLeast(Check check) {
        faultDue(check, "raise  0 0", 6);
        faultDue(check, "hit  1 1", 4);
        faultDue(check, "tin  1 1", 4);
        faultDue(check, "cook  1 1", 5);
        faultDue(check, "sell  1 1", 5);
        faultDue(check, "bars ;bars 1", 5);
        faultDue(check, "raise 0 ;bars 1", 8);
        faultDue(check, "hit 1 ;bars 1", 6);
        faultDue(check, "tin 1  1", 6);
        faultDue(check, "cook 1  1", 7);
        faultDue(check, "sell 1  1", 7);
    }

    // Promise 12, Terms: "`number = digit [ digit ]`"
    // Broken in Script.isAtDigit: >= '0' => > '0'
    // Broken in Script.isAtDigit: <= '9' => < '9'
    // Broken in Script.isAtDigit: >= '0' => >= '/'
    // Broken in Script.isAtDigit: <= '9' => <= ':'
    static void digitsAreFrom0To9(Check check) {
        noFaultDue(check, "hit 0 9");
        noFaultDue(check, "hit 9 0");
        faultDue(check, "hit / 1", 4);
        faultDue(check, "hit : 1", 4);
        faultDue(check, "hit -1 1", 4);
        faultDue(check, "hit +1 1", 4);
        faultDue(check, "hit 1 a", 6);
    }

    // Promise 12, Terms: "The commands are the calls of raise, planish, tin, cook, sell and bars, with their numbers in their order."
    // Broken in Smith.perform: return raisePot(first, second); => return raisePot(second, first);
    // Broken in Smith.perform: return hit(first, second); => return hit(second, first);
    // Broken in Smith.perform: return coat(first, second); => return coat(second, first);
    // Broken in Smith.perform: return use(first, second); => return use(second, first);
    // Broken in Smith.perform: handOver(first, second) => handOver(second, first)
    // Broken in Smith.perform: buyBars(first) => buyBars(second)
    static void commandsAreTheCallsWithTheirNumbers(Check check) {
        CopperStreet x = new CopperStreet();
        x.sheet(2, 60);
        x.sheet(3, 60);
        x.baker(1, 1, 11);
        x.baker(2, 1, 12);
        check.due("read()", 2, Check.read(x, "raise 1 0;raise 0 2"));
        check.due("sheet of pot 0", 1, x.potOf(0, 9));
        check.due("kind of pot 1", 2, x.potOf(1, 0));
        check.due("read()", 1, Check.read(x, "hit 1 40"));
        check.due("blows of pot 1", 40, x.potOf(1, 3));
        check.due("read()", 1, Check.read(x, "tin 1 3"));
        check.due("tin of pot 1", 3, x.potOf(1, 4));
        check.due("read()", 1, Check.read(x, "cook 1 7"));
        check.due("meals of pot 1", 7, x.potOf(1, 5));
        check.due("read()", 1, Check.read(x, "raise 1 1"));
        check.due("read()", 2, Check.read(x, "hit 2 16;bars 5"));
        check.due("bars", 10, x.account(1));
        check.due("read()", 2, Check.read(x, "tin 2 4;sell 2 0"));
        check.due("order of pot 2", 0, x.potOf(2, 8));
    }

    // Promise 13, Terms: "The fault position of a text is the index of its first character that cannot continue such a text"
    // Broken in CopperStreet.read: script.reached() => script.reached() + 1
    static void theFaultIsTheFirstCharacterThatCannotContinue(Check check) {
        faultDue(check, "x", 0);
        faultDue(check, "bars 1;x", 7);
        faultDue(check, "bars 1;bars x", 12);
        faultDue(check, "bars 1;bars 12x", 14);
        faultDue(check, "xbars 1;y", 0);
    }

    // Promise 13, Terms: "or its length if it ends too early"
    // Broken in CopperStreet.read: script.reached() => Math.min(script.reached(), script.length() - 1)
    static void theFaultIsTheLengthOfATextThatEndsTooEarly(Check check) {
        String text = "raise 1 2;hit 1 2;tin 1 2;cook 1 2;sell 1 2;bars 1";
        int[] ends = {9, 17, 25, 34, 43, 50};
        int next = 0;
        for (int length = 0; length <= text.length(); length++) {
            if (length == ends[next]) {
                noFaultDue(check, text.substring(0, length));
                next++;
            } else {
                faultDue(check, text.substring(0, length), length);
            }
        }
    }

    // Promise 13, Terms: "words are looked at letter by letter"
    // Broken in Script.takeWord: return false; => at -= i; return false;
    // Broken in Script.takeWord: i < word.length() => i < word.length() - 2
    // Broken in Script.takeCommand: !takeWord(verb.word) => (!takeWord(verb.word) && !isAtDigit())
    static void wordsAreLookedAtLetterByLetter(Check check) {
        String[] words = {"raise ", "hit ", "tin ", "cook ", "sell ", "bars "};
        for (String word : words) {
            for (int letter = 0; letter < word.length(); letter++) {
                faultDue(check, word.substring(0, letter) + "~" + word.substring(letter + 1) + "0 0", letter);
                faultDue(check, word.substring(0, letter), letter);
                faultDue(check, word.substring(0, letter) + "1" + word.substring(letter + 1) + "0 0", letter);
                faultDue(check, word.substring(0, letter) + ";bars 1", letter);
            }
        }
        faultDue(check, "Bars 1", 0);
        faultDue(check, "bArs 1", 1);
    }

    // Promise 13, Terms: "words are looked at letter by letter"
    // Broken in Script.takeWord: return false; => ;
    static void aLetterThatIsLeftOutIsAFault(Check check) {
        faultDue(check, "aise 0 0", 0);
        faultDue(check, "rise 0 0", 1);
        faultDue(check, "rais 0 0", 4);
        faultDue(check, "raise0 0", 5);
        faultDue(check, "ht 0 0", 1);
        faultDue(check, "tn 0 0", 1);
        faultDue(check, "cok 0 0", 2);
        faultDue(check, "sel 0 0", 3);
        faultDue(check, "brs 0", 1);
        faultDue(check, "bars0", 4);
    }

    // Promise 13: "Returns the fault position of the latest text that had a fault."
    // Promise 13: "Returns the position"
    // Broken in CopperStreet.read: faultPosition = script.reached(); => faultPosition = Math.max(faultPosition, script.reached());
    static void faultIsThatOfTheLatestText(Check check) {
        CopperStreet x = new CopperStreet();
        Check.read(x, "bars 1x");
        check.due("fault()", 6, x.fault());
        Check.read(x, "");
        check.due("fault() of the next text", 0, x.fault());
        Check.read(x, "bars ");
        check.due("fault() of the text after it", 5, x.fault());
    }

    // Promise 13: "of the latest text that had a fault"
    // Broken in CopperStreet.read: history.note(shop); => history.note(shop); faultPosition = NOTHING;
    static void aTextWithoutAFaultLeavesTheLatest(Check check) {
        CopperStreet x = new CopperStreet();
        Check.read(x, "bars 1x");
        Check.read(x, "bars 1");
        check.due("fault() after a text that is carried out", 6, x.fault());
        Check.read(x, "bars 31");
        check.due("fault() after a text that is refused", 6, x.fault());
    }

    // Promise 13: "NOTHING if none had one"
    // Broken in CopperStreet: private int faultPosition = NOTHING => private int faultPosition = 0
    // Broken in CopperStreet.read: if (script.isRight()) => faultPosition = 0; if (script.isRight())
    static void faultIsNothingAtFirst(Check check) {
        CopperStreet x = new CopperStreet();
        check.due("fault() in a new street", NOTHING, x.fault());
        Check.type(x, "zz");
        check.due("fault() before the text is read", NOTHING, x.fault());
        CopperStreet y = new CopperStreet();
        Check.read(y, "bars 1");
        Check.read(y, "bars 31");
        check.due("fault() after texts without a fault", NOTHING, y.fault());
    }
}

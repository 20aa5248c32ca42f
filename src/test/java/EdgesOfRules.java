/** Promises 17 and 18: where a text fails, at each of its signs, and which one is the rule. */
final class EdgesOfRules {
    private static final String LETTERS = "ofwcd";
    private static final String SIGNS = "=<>";
    private static final String DIGITS = "0123456789";
    private static final String OPEN_8 = "((((((((";
    private static final String CLOSE_8 = "))))))))";

    private EdgesOfRules() { }

    private static void fault(Check c, String text, int want) {
        c.due("fault of \"" + text + "\"", Check.faultOf(text), want);
    }

    /** Behind a beginning each of the 255 bytes may go on or not: then the FAULT is at it. */
    private static void goesOnWith(Check c, String beginning, String bytes) {
        for (char next = 1; next <= 255; next++) {
            int at = Check.faultOf(beginning + next);
            c.due("\"" + beginning + "\" and byte " + (int) next + " goes on",
                at != beginning.length(), bytes.indexOf(next) >= 0);
        }
    }

    /** "(the length, if they end too early)": an empty TAPE. */
    static void p17_emptyTape(Check c) {
        ScrapHouse x = new ScrapHouse();
        c.due("at first", x.fault(), 0);
        x.feed(0);
        c.due("bytes of 0", x.fault(), 0);
    }

    /** "NONE": no FAULT, in the shortest texts there are. */
    static void p17_none(Check c) {
        for (char letter : LETTERS.toCharArray()) {
            for (char sign : SIGNS.toCharArray()) {
                fault(c, "" + letter + sign + 0, -1);
                fault(c, "" + letter + sign + 9999, -1);
            }
        }
    }

    /** "(the length, if they end too early)": each beginning of a text that is none itself. */
    static void p17_tooEarly(Check c) {
        String text = "( o = 1 | f < 22 & ( w > 333 ) ) & d = 4444";
        for (int n = 0; n < text.length(); n++) {
            String beginning = text.substring(0, n);
            // Whole are those that end behind the outer bracket, or in the last number.
            boolean whole = n >= 32 && n <= 33 || n >= 40;
            fault(c, beginning, whole ? -1 : n);
        }
        fault(c, text, -1);
    }

    /** The first byte of a text: a letter, ( or a blank. */
    static void p17_atTheBeginning(Check c) {
        goesOnWith(c, "", LETTERS + "( ");
    }

    /** Behind a letter: one of = < >, or a blank. */
    static void p17_behindALetter(Check c) {
        goesOnWith(c, "w", SIGNS + " ");
    }

    /** Behind one of = < >: a digit, or a blank; a number has 1 digit at least. */
    static void p17_behindASign(Check c) {
        for (char sign : SIGNS.toCharArray()) {
            goesOnWith(c, "o" + sign, DIGITS + " ");
        }
    }

    /** Within a number: up to four digits, then | & or a blank. */
    static void p17_withinANumber(Check c) {
        goesOnWith(c, "o=1", DIGITS + "|& ");
        goesOnWith(c, "o=12", DIGITS + "|& ");
        goesOnWith(c, "o=123", DIGITS + "|& ");
    }

    /** "a fifth digit" is a FAULT. */
    static void p17_aFifthDigit(Check c) {
        goesOnWith(c, "o=1234", "|& ");
        goesOnWith(c, "o=0000", "|& ");
        fault(c, "o=1234", -1);
        fault(c, "o=12345", 6);
        fault(c, "o=00001", 6);
        fault(c, "o=123456789", 6);
        fault(c, "f=1|o=12345&x", 10);
        fault(c, "(o=12345)", 7);
    }

    /** Blanks, "not within numbers". */
    static void p17_blanksWithinNumbers(Check c) {
        goesOnWith(c, "o=1 ", "|& ");
        fault(c, "o=1 2", 4);
        fault(c, "o=12  34", 6);
        fault(c, "o=1234 5", 7);
    }

    /** "Blanks (32) may stand between all these". */
    static void p17_blanksBetween(Check c) {
        fault(c, "o =1", -1);
        fault(c, "o= 1", -1);
        fault(c, "o=1 |f=1", -1);
        fault(c, "o=1| f=1", -1);
        fault(c, "o=1 &f=1", -1);
        fault(c, "o=1& f=1", -1);
        fault(c, "( o=1)", -1);
        fault(c, "(o=1 )", -1);
        fault(c, "(o=1) |f=1", -1);
        fault(c, "((o=1) )", -1);
        fault(c, "( (o=1))", -1);
        fault(c, "  (   o    =  1 )   &   f   <   2  ", -1);
    }

    /** Blanks ahead of all, and behind all; blanks alone end too early. */
    static void p17_blanksAlone(Check c) {
        fault(c, " ", 1);
        fault(c, "    ", 4);
        fault(c, " o=1", -1);
        fault(c, "o=1 ", -1);
        fault(c, " x", 1);
        fault(c, "o=1 x", 4);
    }

    /** Blanks are bytes of 32 alone. */
    static void p17_noOtherBlanks(Check c) {
        char[] others = {9, 10, 13, 31, 33, 160};
        for (char other : others) {
            fault(c, other + "o=1", 0);
            fault(c, "o" + other + "=1", 1);
            fault(c, "o=" + other + "1", 2);
            fault(c, "o=1" + other, 3);
        }
    }

    /** Behind | and behind & : a unit must come. */
    static void p17_behindBars(Check c) {
        goesOnWith(c, "o=1|", LETTERS + "( ");
        goesOnWith(c, "o=1&", LETTERS + "( ");
        fault(c, "o=1||f=1", 4);
        fault(c, "o=1|&f=1", 4);
        fault(c, "|o=1", 0);
        fault(c, "&o=1", 0);
    }

    /** Behind ( : a unit must come, so that ( ) has a FAULT. */
    static void p17_behindAnOpenBracket(Check c) {
        goesOnWith(c, "(", LETTERS + "( ");
        fault(c, "()", 1);
        fault(c, "(  )", 3);
        fault(c, "(o=1|)", 5);
        fault(c, "(o=1&)", 5);
    }

    /** ) goes on within ( alone; behind it comes | & or ) . */
    static void p17_closingBrackets(Check c) {
        goesOnWith(c, "(o=1 ", "|&) ");
        goesOnWith(c, "(o=1)", "|& ");
        goesOnWith(c, "((o=1)", "|&) ");
        fault(c, ")", 0);
        fault(c, "o=1)", 3);
        fault(c, "(o=1))", 5);
        fault(c, "(o=1)(f=1)", 5);
        fault(c, "(o=1)f=1", 5);
    }

    /** "at most eight ( within one another". */
    static void p17_eightWithinOneAnother(Check c) {
        fault(c, OPEN_8 + "o=1" + CLOSE_8, -1);
        fault(c, OPEN_8, 8);
        fault(c, OPEN_8 + "o=1" + CLOSE_8 + "&" + OPEN_8 + "f=1" + CLOSE_8, -1);
        goesOnWith(c, "(((((((", LETTERS + "( ");
    }

    /** "a ninth (" is a FAULT, though the text would close it. */
    static void p17_aNinth(Check c) {
        goesOnWith(c, OPEN_8, LETTERS + " ");
        fault(c, OPEN_8 + "(o=1)" + CLOSE_8, 8);
        fault(c, OPEN_8 + "  (o=1)" + CLOSE_8, 10);
        fault(c, OPEN_8 + "o=1|(f=1)" + CLOSE_8, 12);
        fault(c, OPEN_8 + "o=1&(f=1)" + CLOSE_8, 12);
        fault(c, "(" + OPEN_8, 8);
    }

    /** Eight within one another: those that are closed are not counted. */
    static void p17_closedOnesAreNotCounted(Check c) {
        fault(c, "(o=1)|(o=1)|(o=1)|(o=1)|(o=1)|(o=1)|(o=1)|(o=1)|(o=1)", -1);
        fault(c, "(((((((" + "(o=1)|(o=1)&(o=1)" + ")))))))", -1);
        fault(c, "(((((((" + "(o=1)|((o=1))" + ")))))))", 14);
    }

    /** "the first byte at which no such can go on": of several FAULTS the first. */
    static void p17_theFirstOfSeveral(Check c) {
        fault(c, "x=y", 0);
        fault(c, "o=x|y", 2);
        fault(c, "o=1|f=|w", 6);
        fault(c, "(o=1|f)", 6);
        fault(c, "((o=1|f=1 2)", 10);
    }

    /** 100 bytes, the most there are: with no FAULT, with one at the last, with one at their end. */
    static void p17_aHundredBytes(Check c) {
        StringBuilder text = new StringBuilder();
        for (int k = 0; k < 24; k++) {
            text.append(k % 2 == 0 ? "o=1|" : "f=2&");
        }
        fault(c, text + "w=34", -1);
        fault(c, text + "w=3x", 99);
        fault(c, text + "w=3|", 100);
        fault(c, text + "(w=3", 100);
        fault(c, " ".repeat(100), 100);
        fault(c, "(".repeat(100), 8);
        fault(c, "1".repeat(100), 0);
    }

    /** Asking for the FAULT changes nothing. */
    static void p17_changesNothing(Check c) {
        ScrapHouse x = new ScrapHouse();
        Check.feed(x, "o=1|");
        c.due("fault", x.fault(), 4);
        c.due("again", x.fault(), 4);
        c.due("bytes", x.count(5), 4);
        Check.feed(x, "f=1");
        c.due("none", x.fault(), -1);
        c.due("none again", x.fault(), -1);
        c.due("no rule was told", x.count(6), 0);
    }

    /** "False: a FAULT": an empty TAPE has one. */
    static void p18_ofAnEmptyTape(Check c) {
        ScrapHouse x = new ScrapHouse();
        EdgesTest.refused(c, x, "rule()", () -> x.rule());
        c.due("no rule", x.count(6), 0);
    }

    /** "False: a FAULT": the TAPE is as it was, and so is the RULE in force. */
    static void p18_ofAFault(Check c) {
        ScrapHouse x = Check.houseWith(1);
        Check.setRule(x, "o=8");
        Check.feed(x, "o=0|");
        EdgesTest.refused(c, x, "rule()", () -> x.rule());
        c.due("bytes", x.count(5), 4);
        c.due("one rule", x.count(6), 1);
        c.due("that one is in force", x.claim(0, 0, 0, 0, -1, -1), 0);
        c.due("and not the other", x.claim(Check.ALL, 0, 0, 0, -1, -1), -1);
        x.end(3);
        c.due("rule() of what is left", x.rule(), true);
        c.due("it is in force", x.claim(Check.ALL, 0, 0, 0, -1, -1), 0);
    }

    /** "The TAPE (empty then)": a second RULE needs another TAPE. */
    static void p18_theTapeIsEmptyThen(Check c) {
        ScrapHouse x = Check.houseWith(1);
        Check.feed(x, "o=8");
        c.due("rule()", x.rule(), true);
        c.due("bytes", x.count(5), 0);
        c.due("fault", x.fault(), 0);
        c.due("rule() again", x.rule(), false);
        c.due("one rule", x.count(6), 1);
        c.due("it is in force still", x.claim(0, 0, 0, 0, -1, -1), 0);
        c.due("a new tape", Check.feed(x, "o"), 1);
        c.due("it is in force, whatever comes", x.claim(0, 0, 0, 0, -1, -1), 0);
        x.end(0);
        c.due("and whatever ends", x.claim(0, 0, 0, 0, -1, -1), 0);
    }

    /** "The TAPE (empty then)": by the second RULE as by the first, and by the third. */
    static void p18_emptyByEachRule(Check c) {
        ScrapHouse x = Check.houseWith(1);
        String[] rules = {"o=0|o=1", "o=8", "o=0 & f=1"};
        for (String rule : rules) {
            c.due("bytes of " + rule, Check.feed(x, rule), rule.length());
            c.due("rule()", x.rule(), true);
            c.due("bytes then", x.count(5), 0);
            c.due("fault then", x.fault(), 0);
        }
    }

    /** "The latest RULE that was told is in force": and no other, be it longer or shorter. */
    static void p18_theLatest(Check c) {
        ScrapHouse x = Check.houseWith(1);
        String[] rules = {"o=0|o=1|o=2|o=3|o=4|o=5|o=6", "o=8", "o=0 & f=1", "o=8"};
        for (int k = 0; k < rules.length; k++) {
            c.due("rule " + k, Check.setRule(x, rules[k]), true);
            c.due("rules told", x.count(6), k + 1);
            c.due("off by 8", x.claim(0, 0, 0, 0, -1, -1), k % 2 == 0 ? -1 : 0);
            c.due("off by 0", x.claim(Check.ALL, 0, 0, 0, -1, -1), k % 2 == 0 ? 0 : -1);
        }
    }

    /** "ahead of the first one no claim holds": a TAPE is no RULE yet. */
    static void p18_aheadOfTheFirst(Check c) {
        ScrapHouse x = Check.houseWith(1);
        c.due("none at first", x.claim(0, 0, 0, 0, -1, -1), -1);
        Check.feed(x, "o<9");
        c.due("a tape alone", x.claim(0, 0, 0, 0, -1, -1), -1);
        x.fault();
        c.due("a tape that was looked at", x.claim(0, 0, 0, 0, -1, -1), -1);
        x.rule();
        c.due("a rule", x.claim(0, 0, 0, 0, -1, -1), 0);
        ScrapHouse y = Check.houseWith(1);
        Check.feed(y, "o<9|");
        y.rule();
        c.due("one that was refused", y.claim(0, 0, 0, 0, -1, -1), -1);
    }

    /** A RULE of 100 bytes, whose last test decides. */
    static void p18_ofAHundredBytes(Check c) {
        ScrapHouse x = Check.houseWith(1);
        StringBuilder text = new StringBuilder();
        for (int k = 0; k < 24; k++) {
            text.append("o=1|");
        }
        c.due("rule", Check.setRule(x, text + "w=00"), true);
        c.due("it holds", x.claim(0, 0, 0, 0, -1, -1), 0);
        c.due("it does not", x.claim(0, 0, 1, 1, -1, -1), -1);
    }
}

/** Promises 1 and 2: where a new object begins, and how many days go by. */
final class EdgesOfDays {
    private EdgesOfDays() { }

    /** "DAY 0": NOW is 0 at first, and there is no other DAY to ask for. */
    static void p1_theFirstDayIs0(Check c) {
        ScrapHouse x = new ScrapHouse();
        c.due("NOW", x.count(0), 0);
        c.due("day 0", x.many(0, 0, 0), 0);
        c.due("no day 1", x.many(0, 1, 0), -1);
        c.due("no q 1", x.many(0, 0, 1), -1);
    }

    /** "nobody": no CHILD, no BALLOT, nobody at a PLACE. */
    static void p1_nobodyIsThere(Check c) {
        ScrapHouse x = new ScrapHouse();
        for (int what = 1; what <= 7; what++) {
            c.due("count(" + what + ")", x.count(what), 0);
        }
        for (int place = 0; place <= 15; place++) {
            c.due("many(" + place + ")", x.many(place, 0, 0), 0);
        }
        c.due("told", x.told(0, 0), -1);
        c.due("place", x.place(0, 0, 0), -1);
        c.due("ball", x.ball(0, 0), -1);
        c.due("away", x.away(0, 0), -2);
        c.due("leave", x.leave(0, 0, 0, 0, 0, 0), -1);
        c.due("move", x.move(0, 0, 0), false);
        c.due("ask", x.ask(0, 0), -1);
    }

    /** The TAPE is empty and no RULE is in force. */
    static void p1_noTapeAndNoRule(Check c) {
        ScrapHouse x = Check.houseWith(1);
        c.due("bytes", x.count(5), 0);
        c.due("fault", x.fault(), 0);
        c.due("no claim holds", x.claim(Check.ALL, 0, 0, 0, 0, 0), -1);
    }

    /** No NURSE was looked at: the first look of the first DAY is none too many. */
    static void p1_nobodyWasLookedAt(Check c) {
        for (int nurse = 1; nurse <= 12; nurse++) {
            ScrapHouse x = Check.houseWith(1);
            x.move(0, nurse, 0);
            c.due("pay of " + nurse, x.pay(nurse, 0, 300, 0), 0);
            c.due("gap of " + nurse, x.gap(nurse, 0, 300, 0), 1);
            c.due("look at " + nurse, x.look(nurse), true);
        }
    }

    /** "NURSES have 2 beds each": two CHILDREN are not too many, three are. */
    static void p1_twoBedsEach(Check c) {
        for (int nurse = 1; nurse <= 12; nurse++) {
            ScrapHouse x = Check.houseWith(3);
            c.due("first bed of " + nurse, x.move(0, nurse, 0), true);
            c.due("second bed of " + nurse, x.move(1, nurse, 0), true);
            c.due("third bed of " + nurse, x.move(2, nurse, 0), false);
        }
    }

    /** What is told to one object is not told to another. */
    static void p1_objectsShareNothing(Check c) {
        ScrapHouse x = Check.houseWith(1);
        ScrapHouse y = new ScrapHouse();
        x.days(3);
        x.beds(1, 1);
        x.look(1);
        x.move(0, 1, 0);
        Check.setRule(x, "o<9");
        Check.feed(x, "o=");
        for (int what = 0; what <= 7; what++) {
            c.due("count(" + what + ")", y.count(what), 0);
        }
        Check.leave(y, 0, 0, 0, 0);
        Check.leave(y, 0, 0, 0, 0);
        y.move(0, 1, 0);
        c.due("beds", y.move(1, 1, 0), true);
        c.due("rule", y.claim(0, 0, 0, 0, -1, -1), -1);
        c.due("look", y.look(1), true);
    }

    /** n is 0 .. 1,000: below 0. */
    static void p2_daysBelow0(Check c) {
        ScrapHouse x = new ScrapHouse();
        x.days(9);
        EdgesTest.refused(c, x, "days(-1)", () -> x.days(-1), -1);
        EdgesTest.refused(c, x, "days(-9)", () -> x.days(-9), -1);
        EdgesTest.refused(c, x, "days(least)", () -> x.days(Integer.MIN_VALUE), -1);
    }

    /** n is 0 .. 1,000: none go by. */
    static void p2_noDays(Check c) {
        ScrapHouse x = new ScrapHouse();
        c.due("days(0) at first", x.days(0), 0);
        x.days(9);
        c.due("days(0)", x.days(0), 9);
        c.due("NOW", x.count(0), 9);
    }

    /** n is 0 .. 1,000: the most, and one more. */
    static void p2_daysAbove1000(Check c) {
        ScrapHouse x = new ScrapHouse();
        EdgesTest.refused(c, x, "days(1001)", () -> x.days(1001), -1);
        EdgesTest.refused(c, x, "days(2000)", () -> x.days(2000), -1);
        EdgesTest.refused(c, x, "days(greatest)", () -> x.days(Integer.MAX_VALUE), -1);
        c.due("days(999)", x.days(999), 999);
        ScrapHouse y = new ScrapHouse();
        c.due("days(1000)", y.days(1000), 1000);
    }

    /** "NONE: .. NOW would be above 2,000": 2,000 itself is not. */
    static void p2_nowAbove2000(Check c) {
        ScrapHouse x = new ScrapHouse();
        x.days(1000);
        x.days(999);
        EdgesTest.refused(c, x, "days(2) in 1999", () -> x.days(2), -1);
        EdgesTest.refused(c, x, "days(1000) in 1999", () -> x.days(1000), -1);
        c.due("days(1) in 1999", x.days(1), 2000);
        EdgesTest.refused(c, x, "days(1) in 2000", () -> x.days(1), -1);
        c.due("days(0) in 2000", x.days(0), 2000);
    }

    /** A sum that goes round the ints must not come back below 2,000. */
    static void p2_sumsThatGoRound(Check c) {
        ScrapHouse x = new ScrapHouse();
        x.days(1000);
        x.days(1000);
        EdgesTest.refused(c, x, "days(greatest)", () -> x.days(Integer.MAX_VALUE), -1);
        EdgesTest.refused(c, x, "days(least)", () -> x.days(Integer.MIN_VALUE), -1);
    }

    /** 1,000 DAYS twice are 2,000 in all. */
    static void p2_theMostTwice(Check c) {
        ScrapHouse x = new ScrapHouse();
        c.due("days(1000)", x.days(1000), 1000);
        c.due("days(1000) again", x.days(1000), 2000);
        c.due("day 2000 is there", x.many(0, 2000, 2000), 0);
        c.due("day 2001 is not", x.many(0, 2001, 2000), -1);
    }
}

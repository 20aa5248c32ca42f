/** Promises 10, 12 and 13: looks of one day, weeks at their ends, and what was known in q. */
final class EdgesOfPay {
    private EdgesOfPay() { }

    /** NURSE 3 has a CHILD from DAY 0 on; she is looked at on these DAYS; NOW is the last one given. */
    private static ScrapHouse lookedAtOn(int now, int... days) {
        ScrapHouse x = Check.houseWith(1);
        x.move(0, 3, 0);
        for (int day : days) {
            x.days(day - x.count(0));
            x.look(3);
        }
        x.days(now - x.count(0));
        return x;
    }

    private static void payAndGap(Check c, ScrapHouse x, int first, int last, int q, int pay, int gap) {
        String with = "(3, " + first + ", " + last + ", " + q + ")";
        c.due("pay" + with, x.pay(3, first, last, q), pay);
        c.due("gap" + with, x.gap(3, first, last, q), gap);
    }

    /** "False: no such one": NURSES are 1 .. 12. */
    static void p10_noSuchNurse(Check c) {
        ScrapHouse x = new ScrapHouse();
        c.due("nurse 0", x.look(0), false);
        c.due("nurse 13", x.look(13), false);
        c.due("nurse -1", x.look(-1), false);
        for (int far : EdgesTest.FAR) {
            c.due("nurse " + far, x.look(far), false);
        }
        c.due("no look was told", x.count(4), 0);
        c.due("nurse 1", x.look(1), true);
        c.due("nurse 12", x.look(12), true);
        c.due("two looks", x.count(4), 2);
    }

    /** "False: .. she was TODAY", on the first DAY and on others; the next DAY she is again. */
    static void p10_sheWasToday(Check c) {
        ScrapHouse x = new ScrapHouse();
        for (int day = 0; day < 3; day++) {
            c.due("first on " + day, x.look(3), true);
            c.due("second on " + day, x.look(3), false);
            c.due("looks", x.count(4), day + 1);
            x.days(1);
        }
    }

    /** No DAYS that go by, or DAYS that are refused, leave it TODAY. */
    static void p10_todayIsTheSameDay(Check c) {
        ScrapHouse x = new ScrapHouse();
        x.look(3);
        x.days(0);
        x.days(1001);
        c.due("again", x.look(3), false);
    }

    /** She was TODAY: another NURSE was not. */
    static void p10_eachNurseOnItsOwn(Check c) {
        ScrapHouse x = new ScrapHouse();
        for (int nurse = 1; nurse <= 12; nurse++) {
            c.due("look(" + nurse + ")", x.look(nurse), true);
        }
        for (int nurse = 1; nurse <= 12; nurse++) {
            c.due("look(" + nurse + ") again", x.look(nurse), false);
        }
        c.due("twelve looks", x.count(4), 12);
    }

    /** A look on the last DAY. */
    static void p10_onTheLastDay(Check c) {
        ScrapHouse x = lookedAtOn(1000, 1000);
        x.days(1000);
        c.due("on 2,000", x.look(3), true);
        c.due("again", x.look(3), false);
        c.due("two looks", x.count(4), 2);
    }

    private static void noSuch(Check c, int nurse, int first, int last, int q, boolean pay) {
        ScrapHouse x = lookedAtOn(20, 3);
        String with = "(" + nurse + ", " + first + ", " + last + ", " + q + ")";
        if (pay) {
            c.due("pay" + with, x.pay(nurse, first, last, q), -1);
        } else {
            c.due("gap" + with, x.gap(nurse, first, last, q), -1);
        }
    }

    private static void noSuchNurse(Check c, boolean pay) {
        noSuch(c, 0, 0, 2, 20, pay);
        noSuch(c, 13, 0, 2, 20, pay);
        noSuch(c, -1, 0, 2, 20, pay);
        for (int far : EdgesTest.FAR) {
            noSuch(c, far, 0, 2, 20, pay);
        }
    }

    private static void noSuchWeek(Check c, boolean pay) {
        noSuch(c, 3, -1, 2, 20, pay);
        noSuch(c, 3, -1, -1, 20, pay);
        noSuch(c, 3, 0, 301, 20, pay);
        noSuch(c, 3, 301, 301, 20, pay);
        noSuch(c, 3, 0, -1, 20, pay);
        for (int far : EdgesTest.FAR) {
            noSuch(c, 3, far, 300, 20, pay);
            noSuch(c, 3, 0, far, 20, pay);
            noSuch(c, 3, far, far, 20, pay);
        }
    }

    private static void firstBehindLast(Check c, boolean pay) {
        noSuch(c, 3, 1, 0, 20, pay);
        noSuch(c, 3, 300, 299, 20, pay);
        noSuch(c, 3, 300, 0, 20, pay);
    }

    private static void noSuchQ(Check c, boolean pay) {
        noSuch(c, 3, 0, 2, -1, pay);
        noSuch(c, 3, 0, 2, 21, pay);
        for (int far : EdgesTest.FAR) {
            noSuch(c, 3, 0, 2, far, pay);
        }
    }

    /** "NONE: no such": no such NURSE. */
    static void p12_noSuchNurse(Check c) {
        noSuchNurse(c, true);
    }

    /** "a WEEK (0 .. 300)". */
    static void p12_noSuchWeek(Check c) {
        noSuchWeek(c, true);
    }

    /** "to a WEEK (.. not behind it)": the first is not behind the last. */
    static void p12_firstBehindLast(Check c) {
        firstBehindLast(c, true);
    }

    /** "as known in q (0 .. NOW)". */
    static void p12_noSuchQ(Check c) {
        noSuchQ(c, true);
    }

    /** WEEKS 0 and 300 are there, and one WEEK alone is a span. */
    static void p12_weeksAtTheirEnds(Check c) {
        ScrapHouse x = lookedAtOn(20, 3);
        c.due("week 0 alone", x.pay(3, 0, 0, 20), 14);
        c.due("weeks 0 to 300", x.pay(3, 0, 300, 20), 14);
        c.due("week 300 alone", x.pay(3, 300, 300, 20), 0);
        c.due("weeks 1 to 300", x.pay(3, 1, 300, 20), 0);
    }

    /** NURSES 1 and 12 are there. */
    static void p12_nursesAtTheirEnds(Check c) {
        ScrapHouse x = Check.houseWith(3);
        x.move(0, 1, 0);
        x.move(1, 12, 0);
        x.move(2, 12, 0);
        x.look(1);
        x.look(12);
        c.due("nurse 1", x.pay(1, 0, 0, 0), 2);
        c.due("nurse 12", x.pay(12, 0, 0, 0), 4);
    }

    /** "WEEK w has DAYS 7 w .. 7 w + 6": a look on its first DAY and on its last one. */
    static void p12_looksAtTheEndsOfAWeek(Check c) {
        for (int day = 0; day <= 20; day++) {
            ScrapHouse x = lookedAtOn(20, day);
            for (int week = 0; week <= 2; week++) {
                c.due("looked at on " + day + ", week " + week, x.pay(3, week, week, 20), day / 7 == week ? 14 : 0);
            }
        }
    }

    /** "WEEK w has DAYS 7 w .. 7 w + 6": a CHILD that is with her on one DAY of it. */
    static void p12_aDayAtTheEndsOfAWeek(Check c) {
        for (int day = 0; day < 20; day++) {
            ScrapHouse x = Check.houseWith(1);
            x.days(10);
            x.look(3);
            x.days(10);
            x.move(0, 3, day);
            x.move(0, 0, day + 1);
            c.due("with her on " + day, x.pay(3, 0, 2, 20), day / 7 == 1 ? 2 : 0);
        }
    }

    /** SEEN is a WEEK, once: two looks in it are paid as one. */
    static void p12_twoLooksInAWeek(Check c) {
        ScrapHouse x = lookedAtOn(20, 7, 8, 13);
        c.due("week 1", x.pay(3, 1, 1, 20), 14);
        c.due("all weeks", x.pay(3, 0, 2, 20), 14);
        ScrapHouse y = lookedAtOn(20, 0, 6, 7, 13, 14);
        c.due("three weeks", y.pay(3, 0, 2, 20), 42);
    }

    /** "each CHILD and DAY": several stays of one CHILD, and of two at once, all count. */
    static void p12_severalStays(Check c) {
        ScrapHouse x = Check.houseWith(2);
        x.look(3);
        x.days(6);
        for (int day = 0; day <= 6; day++) {
            x.move(0, day % 2 == 0 ? 3 : 4, day);
        }
        c.due("days 0, 2, 4, 6", x.pay(3, 0, 0, 6), 8);
        x.move(1, 3, 2);
        x.move(1, 0, 4);
        c.due("and days 2, 3 of another", x.pay(3, 0, 0, 6), 12);
        c.due("up to 2", x.pay(3, 0, 0, 2), 0);
        c.due("gap of the other nurse", x.gap(4, 0, 0, 6), 3);
    }

    /** "DAY (up to q)": q itself is paid, the DAY behind it is not. */
    static void p12_daysUpToQ(Check c) {
        ScrapHouse x = lookedAtOn(20, 0, 7, 14);
        for (int q = 0; q <= 20; q++) {
            c.due("in " + q, x.pay(3, 0, 300, q), 2 * (q + 1));
        }
    }

    /** "(Looks, too, as told up to q.)": on q it is known, the DAY ahead it is not. */
    static void p12_looksUpToQ(Check c) {
        ScrapHouse x = lookedAtOn(20, 4);
        c.due("in 3", x.pay(3, 0, 0, 3), 0);
        c.due("in 4", x.pay(3, 0, 0, 4), 10);
        c.due("in 5", x.pay(3, 0, 0, 5), 12);
        ScrapHouse y = lookedAtOn(20, 2, 5);
        c.due("the earlier of two is known", y.pay(3, 0, 0, 4), 10);
    }

    /** MOVES as known in q: one told on q counts, the DAY ahead it does not. */
    static void p12_movesUpToQ(Check c) {
        ScrapHouse x = lookedAtOn(5, 0);
        x.move(0, 0, 1);
        x.days(5);
        c.due("in 4", x.pay(3, 0, 0, 4), 10);
        c.due("in 5", x.pay(3, 0, 0, 5), 2);
        c.due("in 10", x.pay(3, 0, 1, 10), 2);
    }

    /** Nobody looked, or nobody with her: 0, and not NONE. */
    static void p12_nothingToPay(Check c) {
        c.due("nobody looked", lookedAtOn(20).pay(3, 0, 300, 20), 0);
        ScrapHouse x = lookedAtOn(20, 3);
        x.look(5);
        c.due("nobody with her", x.pay(5, 0, 300, 20), 0);
        c.due("another's look", x.pay(3, 1, 2, 20), 0);
        c.due("a new house", new ScrapHouse().pay(1, 0, 300, 0), 0);
    }

    /** The last WEEK that has DAYS, 285, has six of them, up to 2,000; 144 WEEKS up to it are SEEN. */
    static void p12_theLastWeek(Check c) {
        ScrapHouse x = Check.houseWith(3);
        x.beds(3, 3);
        for (int child = 0; child < 3; child++) {
            x.move(child, 3, 0);
        }
        x.days(1000);
        for (int week = 142; week < 285; week++) {
            x.look(3);
            x.days(week < 284 ? 7 : 6);
        }
        c.due("the last look", x.look(3), true);
        c.due("NOW", x.count(0), 2000);
        c.due("week 285", x.pay(3, 285, 285, 2000), 36);
        c.due("week 286", x.pay(3, 286, 286, 2000), 0);
        c.due("week 142", x.pay(3, 142, 142, 2000), 42);
        c.due("week 141", x.pay(3, 141, 141, 2000), 0);
        c.due("all", x.pay(3, 0, 300, 2000), 2 * 3 * 1007);
        c.due("the others' gap", x.gap(3, 0, 300, 2000), 3 * 994);
    }

    /** "The GAP likewise": no such NURSE. */
    static void p13_noSuchNurse(Check c) {
        noSuchNurse(c, false);
    }

    /** "likewise": WEEKS 0 .. 300. */
    static void p13_noSuchWeek(Check c) {
        noSuchWeek(c, false);
    }

    /** "likewise": the first not behind the last. */
    static void p13_firstBehindLast(Check c) {
        firstBehindLast(c, false);
    }

    /** "likewise": q 0 .. NOW. */
    static void p13_noSuchQ(Check c) {
        noSuchQ(c, false);
    }

    /** WEEKS 0 and 300 are there, and one WEEK alone is a span. */
    static void p13_weeksAtTheirEnds(Check c) {
        ScrapHouse x = lookedAtOn(20, 10);
        payAndGap(c, x, 0, 0, 20, 0, 7);
        payAndGap(c, x, 1, 1, 20, 14, 0);
        payAndGap(c, x, 0, 300, 20, 14, 14);
        payAndGap(c, x, 300, 300, 20, 0, 0);
    }

    /** NURSES 1 and 12 are there. */
    static void p13_nursesAtTheirEnds(Check c) {
        ScrapHouse x = Check.houseWith(3);
        x.move(0, 1, 0);
        x.move(1, 12, 0);
        x.move(2, 12, 0);
        c.due("nurse 1", x.gap(1, 0, 0, 0), 1);
        c.due("nurse 12", x.gap(12, 0, 0, 0), 2);
    }

    /** "in WEEKS not SEEN": a look on its first DAY or its last one makes it SEEN. */
    static void p13_looksAtTheEndsOfAWeek(Check c) {
        for (int day = 0; day <= 20; day++) {
            ScrapHouse x = lookedAtOn(20, day);
            for (int week = 0; week <= 2; week++) {
                c.due("looked at on " + day + ", week " + week, x.gap(3, week, week, 20), day / 7 == week ? 0 : 7);
            }
        }
    }

    /** Two looks in a WEEK: it is not taken off twice. */
    static void p13_twoLooksInAWeek(Check c) {
        ScrapHouse x = lookedAtOn(20, 7, 8, 13);
        c.due("all weeks", x.gap(3, 0, 2, 20), 14);
        c.due("week 1", x.gap(3, 1, 1, 20), 0);
    }

    /** "DAYS (up to q)": q itself counts, the DAY behind it does not. */
    static void p13_daysUpToQ(Check c) {
        ScrapHouse x = lookedAtOn(20);
        for (int q = 0; q <= 20; q++) {
            c.due("in " + q, x.gap(3, 0, 300, q), q + 1);
        }
        c.due("weeks behind q", x.gap(3, 1, 300, 6), 0);
        c.due("a week that begins on q", x.gap(3, 1, 300, 7), 1);
    }

    /** "(Looks, too, as told up to q.)": until then its DAYS are in the GAP. */
    static void p13_looksUpToQ(Check c) {
        ScrapHouse x = lookedAtOn(20, 4);
        c.due("in 3", x.gap(3, 0, 0, 3), 4);
        c.due("in 4", x.gap(3, 0, 0, 4), 0);
    }

    /** A CHILD counts from its coming on, and not while that is not known. */
    static void p13_itsComing(Check c) {
        ScrapHouse x = new ScrapHouse();
        x.days(10);
        Check.leave(x, 0, 0, 0, 0);
        x.move(0, 3, 10);
        x.days(10);
        c.due("in 9", x.gap(3, 0, 300, 9), 0);
        c.due("in 10", x.gap(3, 0, 300, 10), 1);
        c.due("in 20", x.gap(3, 0, 300, 20), 11);
        c.due("week 0", x.gap(3, 0, 0, 20), 0);
        c.due("week 1", x.gap(3, 1, 1, 20), 4);
    }

    /** Nobody with her: 0, and not NONE. */
    static void p13_nobodyWithHer(Check c) {
        ScrapHouse x = lookedAtOn(20);
        c.due("another", x.gap(5, 0, 300, 20), 0);
        c.due("a new house", new ScrapHouse().gap(1, 0, 300, 0), 0);
    }

    /** WEEK 285 ends with 2,000: all 2,001 DAYS of three CHILDREN, and none behind them. */
    static void p13_theLastWeek(Check c) {
        ScrapHouse x = Check.houseWith(3);
        x.beds(3, 3);
        for (int child = 0; child < 3; child++) {
            x.move(child, 3, 0);
        }
        x.days(1000);
        x.days(1000);
        c.due("all", x.gap(3, 0, 300, 2000), 6003);
        c.due("week 285", x.gap(3, 285, 285, 2000), 18);
        c.due("week 286", x.gap(3, 286, 286, 2000), 0);
    }
}

/** Promise 25: counts of nothing, of all that there can be, and of what was refused. */
final class EdgesOfCounts {
    private EdgesOfCounts() { }

    private static void counts(Check c, ScrapHouse x, int... due) {
        for (int what = 0; what < due.length; what++) {
            c.due("count(" + what + ")", x.count(what), due[what]);
        }
    }

    /** "NONE for others": what is 0 .. 7. */
    static void p25_noSuchWhat(Check c) {
        ScrapHouse x = Check.houseWith(1);
        c.due("count(-1)", x.count(-1), -1);
        c.due("count(8)", x.count(8), -1);
        for (int far : EdgesTest.FAR) {
            c.due("count(" + far + ")", x.count(far), -1);
        }
    }

    /** All counts of a new object are 0. */
    static void p25_ofNothing(Check c) {
        counts(c, new ScrapHouse(), 0, 0, 0, 0, 0, 0, 0, 0);
    }

    /** Calls that are refused are not counted. */
    static void p25_refusedIsNotCounted(Check c) {
        ScrapHouse x = Check.houseWith(1);
        x.days(-1);
        x.ballot(0, 0, 0, 1L);
        x.leave(0, 0, 0, 0, 0, 0);
        x.leave(0, 1, 2, 0, 0, 0);
        x.move(0, 16, 0);
        x.look(0);
        x.look(13);
        x.rule();
        x.end(1);
        counts(c, x, 0, 1, 1, 0, 0, 0, 0, 1);
        x.look(1);
        x.look(1);
        Check.setRule(x, "o=1");
        x.rule();
        counts(c, x, 0, 1, 1, 0, 1, 0, 1, 1);
    }

    /** Each count at the most: 2,000 DAYS, 60 CHILDREN, 50 BALLOTS, 300 MOVES, 100 bytes. */
    static void p25_atTheMost(Check c) {
        ScrapHouse x = new ScrapHouse();
        x.days(1000);
        x.days(1000);
        for (int k = 0; k < 50; k++) {
            x.ballot(2, 2, 0, k);
        }
        for (int k = 0; k < 60; k++) {
            x.leave(k % 50, k / 50, 0, 0, 0, 0);
        }
        for (int k = 0; k < 300; k++) {
            x.move(k % 60, 0, 2000);
        }
        for (int nurse = 1; nurse <= 12; nurse++) {
            x.look(nurse);
        }
        Check.setRule(x, "o=1");
        for (int k = 0; k < 25; k++) {
            x.feed(-1);
        }
        counts(c, x, 2000, 60, 50, 300, 12, 100, 1, 60);
        x.days(1);
        x.ballot(1, 1, 0, 1L);
        x.leave(30, 1, 0, 0, 0, 0);
        x.move(0, 0, 2000);
        x.look(12);
        x.feed(-1);
        counts(c, x, 2000, 60, 50, 300, 12, 100, 1, 60);
    }

    /** "7 CHILDREN in the house NOW (as known NOW)": not those who were there, or are so no more. */
    static void p25_inTheHouseNow(Check c) {
        ScrapHouse x = Check.houseWith(3);
        c.due("three", x.count(7), 3);
        x.days(5);
        x.move(0, 13, 5);
        c.due("one goes NOW", x.count(7), 2);
        x.move(1, 3, 2);
        c.due("one went", x.count(7), 1);
        x.move(1, 0, 5);
        c.due("and is back NOW", x.count(7), 2);
        x.move(2, 4, 1);
        x.move(2, 0, 2);
        c.due("one was away for a DAY", x.count(7), 2);
        x.move(0, 0, 5);
        c.due("as told last", x.count(7), 3);
        x.days(1);
        c.due("the next DAY", x.count(7), 3);
    }

    /** "bytes of the TAPE": 0 again when it is a RULE, and as many as it was ended with. */
    static void p25_bytesOfTheTape(Check c) {
        ScrapHouse x = new ScrapHouse();
        Check.feed(x, "o=12");
        c.due("four", x.count(5), 4);
        x.end(3);
        c.due("three", x.count(5), 3);
        x.rule();
        c.due("none", x.count(5), 0);
    }

    /** "used for at most 512 calls": the last of them answers as the first ones do. */
    static void p25_theLast512Calls(Check c) {
        ScrapHouse x = new ScrapHouse();
        int calls = 0;
        for (; calls < 511; calls++) {
            c.due("look " + calls, x.look(1 + calls % 12), calls < 12);
        }
        c.due("the 512th call", x.count(4), 12);
        ScrapHouse y = new ScrapHouse();
        for (int k = 0; k < 255; k++) {
            c.due("look " + k, y.look(1), true);
            c.due("day " + k, y.days(1), k + 1);
        }
        c.due("the 511th call", y.look(1), true);
        c.due("the 512th", y.count(4), 256);
    }
}

/** Promise 7: whose beds, how many, and children who are too many for them. */
final class EdgesOfBeds {
    private EdgesOfBeds() { }

    /** How many of four CHILDREN a NURSE takes in NOW. */
    private static int taken(ScrapHouse x, int nurse) {
        int taken = 0;
        for (int child = 0; child < 4; child++) {
            taken += x.move(child, nurse, x.count(0)) ? 1 : 0;
        }
        return taken;
    }

    /** "False: no such one": NURSES are 1 .. 12. */
    static void p7_noSuchNurse(Check c) {
        ScrapHouse x = Check.houseWith(4);
        c.due("nurse 0", x.beds(0, 1), false);
        c.due("nurse 13", x.beds(13, 1), false);
        c.due("nurse -1", x.beds(-1, 1), false);
        for (int far : EdgesTest.FAR) {
            c.due("nurse " + far, x.beds(far, 1), false);
        }
        c.due("nurse 1", x.beds(1, 1), true);
        c.due("nurse 12", x.beds(12, 3), true);
        c.due("taken in by 1", taken(x, 1), 1);
        c.due("taken in by 12", taken(x, 12), 3);
        c.due("taken in by 2, of whom nothing was told", taken(x, 2), 2);
    }

    /** "False: .. not 1 .. 3": her beds are then as they were. */
    static void p7_not1To3(Check c) {
        ScrapHouse x = Check.houseWith(4);
        c.due("beds(1, 0)", x.beds(1, 0), false);
        c.due("beds(2, 4)", x.beds(2, 4), false);
        c.due("beds(3, -1)", x.beds(3, -1), false);
        for (int far : EdgesTest.FAR) {
            c.due("beds(4, " + far + ")", x.beds(4, far), false);
        }
        for (int nurse = 1; nurse <= 4; nurse++) {
            c.due("taken in by " + nurse, taken(x, nurse), 2);
        }
    }

    /** 1, 2 and 3 beds: so many CHILDREN, and no more. */
    static void p7_1And2And3(Check c) {
        for (int many = 1; many <= 3; many++) {
            ScrapHouse x = Check.houseWith(4);
            c.due("beds(5, " + many + ")", x.beds(5, many), true);
            c.due("taken in", taken(x, 5), many);
        }
    }

    /** What she has already may be told again, by day and while she is full. */
    static void p7_theSameAgain(Check c) {
        ScrapHouse x = Check.houseWith(4);
        c.due("beds(6, 2)", x.beds(6, 2), true);
        taken(x, 6);
        c.due("beds(6, 2) again", x.beds(6, 2), true);
    }

    /** "more CHILDREN are with her": as many as beds are not more. */
    static void p7_asManyAsBeds(Check c) {
        for (int many = 1; many <= 3; many++) {
            ScrapHouse x = Check.houseWith(4);
            x.beds(7, 3);
            for (int child = 0; child < many; child++) {
                x.move(child, 7, 0);
            }
            for (int beds = 1; beds <= 3; beds++) {
                c.due(many + " children, beds(7, " + beds + ")", x.beds(7, beds), beds >= many);
            }
        }
    }

    /** Two CHILDREN are with a NURSE from a first DAY to a last one, of ten. */
    private static ScrapHouse twoWith(int nurse, int first, int last) {
        ScrapHouse x = Check.houseWith(2);
        x.days(9);
        for (int child = 0; child < 2; child++) {
            x.move(child, nurse, first);
            if (last < 9) {
                x.move(child, 0, last + 1);
            }
        }
        return x;
    }

    /** "on some DAY": the first, one between, NOW; one DAY alone is enough. */
    static void p7_onSomeDay(Check c) {
        for (int day = 0; day <= 9; day++) {
            ScrapHouse x = twoWith(8, day, day);
            c.due("two on " + day + ": beds(8, 1)", x.beds(8, 1), false);
            c.due("two on " + day + ": beds(8, 2)", x.beds(8, 2), true);
        }
    }

    /** "on some DAY": they come on different DAYS, and only one DAY has both. */
    static void p7_onTheDayOnWhichStaysMeet(Check c) {
        ScrapHouse x = Check.houseWith(2);
        x.days(9);
        x.move(0, 8, 2);
        x.move(0, 0, 5);
        x.move(1, 8, 5);
        c.due("one goes as the other comes", x.beds(8, 1), true);
        x.beds(8, 2);
        x.move(1, 8, 4);
        c.due("both on 4", x.beds(8, 1), false);
    }

    /** "(as known NOW)": what was known once and is known better NOW does not count. */
    static void p7_asKnownNow(Check c) {
        ScrapHouse x = Check.houseWith(2);
        x.move(0, 9, 0);
        x.move(1, 9, 0);
        x.days(5);
        c.due("both since 0", x.beds(9, 1), false);
        x.move(1, 0, 0);
        c.due("one of them never was", x.beds(9, 1), true);
    }

    /** A refused call leaves her beds: a third CHILD may come, as before. */
    static void p7_refusedLeavesThem(Check c) {
        ScrapHouse x = Check.houseWith(3);
        x.beds(10, 3);
        x.move(0, 10, 0);
        x.move(1, 10, 0);
        EdgesTest.refused(c, x, "beds(10, 1)", () -> x.beds(10, 1));
        c.due("a third", x.move(2, 10, 0), true);
    }

    /** With another NURSE, bound out, in the house: these are not with her. */
    static void p7_withHerAlone(Check c) {
        ScrapHouse x = Check.houseWith(6);
        x.move(0, 10, 0);
        x.move(1, 10, 0);
        x.move(2, 13, 0);
        x.move(3, 13, 0);
        x.move(4, 12, 0);
        c.due("beds(11, 1)", x.beds(11, 1), true);
        c.due("beds(12, 1)", x.beds(12, 1), true);
        c.due("beds(1, 1)", x.beds(1, 1), true);
        c.due("beds(10, 1)", x.beds(10, 1), false);
    }

    /** With nobody in the house any number from 1 to 3 will do. */
    static void p7_nobodyThere(Check c) {
        ScrapHouse x = new ScrapHouse();
        c.due("beds(1, 1)", x.beds(1, 1), true);
        c.due("beds(1, 3)", x.beds(1, 3), true);
        c.due("beds(1, 4)", x.beds(1, 4), false);
    }
}

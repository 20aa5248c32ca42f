/** Promises 9 and 11: where a child is, and how many are at a place, at the ends of days and of q. */
final class EdgesOfPlaces {
    private EdgesOfPlaces() { }

    /** A CHILD that came on DAY 5, NOW being 10. */
    private static ScrapHouse cameOn5() {
        ScrapHouse x = new ScrapHouse();
        x.days(5);
        Check.leave(x, 0, 0, 0, 0);
        x.days(5);
        return x;
    }

    /** "NONE: no such": no such CHILD. */
    static void p9_noSuchChild(Check c) {
        c.due("none at first", new ScrapHouse().place(0, 0, 0), -1);
        ScrapHouse x = Check.houseWith(2);
        c.due("child 2", x.place(2, 0, 0), -1);
        c.due("child -1", x.place(-1, 0, 0), -1);
        for (int far : EdgesTest.FAR) {
            c.due("child " + far, x.place(far, 0, 0), -1);
        }
        c.due("the last child", x.place(1, 0, 0), 0);
    }

    /** "a DAY (0 .. NOW)". */
    static void p9_dayOutOfBounds(Check c) {
        ScrapHouse x = Check.houseWith(1);
        x.days(10);
        c.due("day -1", x.place(0, -1, 10), -1);
        c.due("day 11", x.place(0, 11, 10), -1);
        for (int far : EdgesTest.FAR) {
            c.due("day " + far, x.place(0, far, 10), -1);
        }
        c.due("day 0", x.place(0, 0, 10), 0);
        c.due("day 10", x.place(0, 10, 10), 0);
    }

    /** "as known in q (0 .. NOW)". */
    static void p9_qOutOfBounds(Check c) {
        ScrapHouse x = Check.houseWith(1);
        x.days(10);
        c.due("q -1", x.place(0, 0, -1), -1);
        c.due("q 11", x.place(0, 0, 11), -1);
        for (int far : EdgesTest.FAR) {
            c.due("q " + far, x.place(0, 0, far), -1);
        }
        c.due("q 0", x.place(0, 0, 0), 0);
        c.due("q 10", x.place(0, 0, 10), 0);
    }

    /** "NONE: .. ahead of its coming". */
    static void p9_aheadOfItsComing(Check c) {
        ScrapHouse x = cameOn5();
        c.due("day 4", x.place(0, 4, 10), -1);
        c.due("day 0", x.place(0, 0, 10), -1);
        c.due("day 5", x.place(0, 5, 10), 0);
        x.move(0, 3, 5);
        c.due("day 4, moved from 5 on", x.place(0, 4, 10), -1);
    }

    /** "(or that not known)". */
    static void p9_itsComingNotKnown(Check c) {
        ScrapHouse x = cameOn5();
        c.due("q 4", x.place(0, 5, 4), -1);
        c.due("q 4, a later day", x.place(0, 10, 4), -1);
        c.due("q 0", x.place(0, 10, 0), -1);
        c.due("q 5", x.place(0, 5, 5), 0);
        c.due("neither", x.place(0, 4, 4), -1);
    }

    /** "0, if no MOVE was told up to q": one told on q is known, one told the DAY after is not. */
    static void p9_toldOnQ(Check c) {
        ScrapHouse x = cameOn5();
        x.move(0, 3, 6);
        x.days(5);
        c.due("q 9", x.place(0, 6, 9), 0);
        c.due("q 10", x.place(0, 6, 10), 3);
        c.due("q 15", x.place(0, 6, 15), 3);
    }

    /** "from a DAY up to d": one from d on counts, one from the DAY after does not. */
    static void p9_fromTheDay(Check c) {
        ScrapHouse x = cameOn5();
        x.move(0, 3, 7);
        c.due("day 6", x.place(0, 6, 10), 0);
        c.due("day 7", x.place(0, 7, 10), 3);
        c.due("day 8", x.place(0, 8, 10), 3);
    }

    /** d may lie behind q: what was known in q goes on. */
    static void p9_aDayBehindQ(Check c) {
        ScrapHouse x = cameOn5();
        x.move(0, 3, 7);
        x.days(10);
        x.move(0, 4, 15);
        c.due("day 20 in 10", x.place(0, 20, 10), 3);
        c.due("day 20 in 19", x.place(0, 20, 19), 3);
        c.due("day 20 in 20", x.place(0, 20, 20), 4);
        c.due("day 10 in 5", x.place(0, 10, 5), 0);
    }

    /** "from the greatest DAY": one from a lesser DAY does not count, though told later. */
    static void p9_theGreatestDay(Check c) {
        ScrapHouse x = cameOn5();
        x.move(0, 3, 8);
        x.move(0, 4, 6);
        x.move(0, 5, 7);
        int[] due = {0, 4, 5, 3, 3, 3};
        for (int k = 0; k < due.length; k++) {
            c.due("day " + (5 + k), x.place(0, 5 + k, 10), due[k]);
        }
    }

    /** "(of several the one told last)": on one DAY and on several. */
    static void p9_ofSeveralTheLast(Check c) {
        ScrapHouse x = cameOn5();
        x.move(0, 3, 7);
        x.move(0, 4, 7);
        c.due("both told today", x.place(0, 7, 10), 4);
        x.days(1);
        x.move(0, 3, 7);
        c.due("told again on 11", x.place(0, 7, 11), 3);
        c.due("as known in 10", x.place(0, 7, 10), 4);
    }

    /** On the DAY of its coming a MOVE counts, and not the coming. */
    static void p9_aMoveOnItsComing(Check c) {
        ScrapHouse x = cameOn5();
        x.move(0, 3, 5);
        c.due("day 5", x.place(0, 5, 10), 3);
        c.due("as known in 9", x.place(0, 5, 9), 0);
        x.move(0, 0, 5);
        c.due("back, from the same DAY", x.place(0, 5, 10), 0);
    }

    /** The first DAY and the last one. */
    static void p9_theFirstAndTheLastDay(Check c) {
        ScrapHouse x = Check.houseWith(1);
        x.days(1000);
        x.days(1000);
        c.due("from 2,000", x.move(0, 15, 2000), true);
        c.due("day 2,000", x.place(0, 2000, 2000), 15);
        c.due("day 1,999", x.place(0, 1999, 2000), 0);
        c.due("as known in 1,999", x.place(0, 2000, 1999), 0);
        c.due("from 0", x.move(0, 12, 0), true);
        c.due("day 0", x.place(0, 0, 2000), 12);
        c.due("day 2,001", x.place(0, 2001, 2000), -1);
    }

    /** "NONE: no such": PLACES are 0 .. 15. */
    static void p11_noSuchPlace(Check c) {
        ScrapHouse x = Check.houseWith(1);
        c.due("place -1", x.many(-1, 0, 0), -1);
        c.due("place 16", x.many(16, 0, 0), -1);
        for (int far : EdgesTest.FAR) {
            c.due("place " + far, x.many(far, 0, 0), -1);
        }
        c.due("place 0", x.many(0, 0, 0), 1);
        c.due("place 15", x.many(15, 0, 0), 0);
    }

    /** "NONE: no such": a DAY is 0 .. NOW. */
    static void p11_dayOutOfBounds(Check c) {
        ScrapHouse x = Check.houseWith(1);
        x.days(10);
        c.due("day -1", x.many(0, -1, 10), -1);
        c.due("day 11", x.many(0, 11, 10), -1);
        for (int far : EdgesTest.FAR) {
            c.due("day " + far, x.many(0, far, 10), -1);
        }
        c.due("day 0", x.many(0, 0, 10), 1);
        c.due("day 10", x.many(0, 10, 10), 1);
    }

    /** "NONE: no such": q is 0 .. NOW. */
    static void p11_qOutOfBounds(Check c) {
        ScrapHouse x = Check.houseWith(1);
        x.days(10);
        c.due("q -1", x.many(0, 10, -1), -1);
        c.due("q 11", x.many(0, 10, 11), -1);
        for (int far : EdgesTest.FAR) {
            c.due("q " + far, x.many(0, 10, far), -1);
        }
        c.due("q 0", x.many(0, 10, 0), 1);
        c.due("q 10", x.many(0, 10, 10), 1);
    }

    /** Out of bounds is NONE with nobody there, too; else nobody is 0. */
    static void p11_nobodyThere(Check c) {
        ScrapHouse x = new ScrapHouse();
        for (int place = 0; place <= 15; place++) {
            c.due("many(" + place + ", 0, 0)", x.many(place, 0, 0), 0);
        }
        c.due("many(16, 0, 0)", x.many(16, 0, 0), -1);
        c.due("many(0, 1, 0)", x.many(0, 1, 0), -1);
        c.due("many(0, 0, 1)", x.many(0, 0, 1), -1);
    }

    /** CHILDREN ahead of their coming, and those whose coming is not known, are nowhere. */
    static void p11_notComeOrNotKnown(Check c) {
        ScrapHouse x = cameOn5();
        c.due("day 4", x.many(0, 4, 10), 0);
        c.due("day 5", x.many(0, 5, 10), 1);
        c.due("in 4", x.many(0, 10, 4), 0);
        c.due("in 5", x.many(0, 10, 5), 1);
    }

    /** All 60 at once, at one PLACE and then at another. */
    static void p11_allSixty(Check c) {
        ScrapHouse x = Check.houseWith(60);
        c.due("in the house", x.many(0, 0, 0), 60);
        x.days(1);
        for (int child = 0; child < 60; child++) {
            x.move(child, 15, 1);
        }
        c.due("dead", x.many(15, 1, 1), 60);
        c.due("in the house on 1", x.many(0, 1, 1), 0);
        c.due("in the house on 0", x.many(0, 0, 1), 60);
        c.due("in the house on 1, in 0", x.many(0, 1, 0), 60);
    }
}

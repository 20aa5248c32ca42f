/** Promise 8: moves that are refused, and those that are just not. */
final class EdgesOfMoves {
    private EdgesOfMoves() { }

    /** A CHILD that came on DAY 5, NOW being 10. */
    private static ScrapHouse cameOn5() {
        ScrapHouse x = new ScrapHouse();
        x.days(5);
        Check.leave(x, 0, 0, 0, 0);
        x.days(5);
        return x;
    }

    /** "False: no such CHILD". */
    static void p8_noSuchChild(Check c) {
        c.due("none at first", new ScrapHouse().move(0, 0, 0), false);
        ScrapHouse x = Check.houseWith(2);
        EdgesTest.refused(c, x, "child 2", () -> x.move(2, 0, 0));
        EdgesTest.refused(c, x, "child -1", () -> x.move(-1, 0, 0));
        for (int far : EdgesTest.FAR) {
            c.due("child " + far, x.move(far, 0, 0), false);
        }
        c.due("the last child", x.move(1, 0, 0), true);
    }

    /** "False: no such .. PLACE": 0 .. 15. */
    static void p8_noSuchPlace(Check c) {
        ScrapHouse x = Check.houseWith(1);
        EdgesTest.refused(c, x, "place -1", () -> x.move(0, -1, 0));
        EdgesTest.refused(c, x, "place 16", () -> x.move(0, 16, 0));
        for (int far : EdgesTest.FAR) {
            c.due("place " + far, x.move(0, far, 0), false);
        }
        for (int place = 0; place <= 15; place++) {
            ScrapHouse y = Check.houseWith(1);
            c.due("place " + place, y.move(0, place, 0), true);
            c.due("it is there", y.place(0, 0, 0), place);
        }
    }

    /** "False: no such .. DAY": not ahead of its coming. */
    static void p8_aheadOfItsComing(Check c) {
        ScrapHouse x = cameOn5();
        EdgesTest.refused(c, x, "from 4", () -> x.move(0, 1, 4));
        EdgesTest.refused(c, x, "from 0", () -> x.move(0, 1, 0));
        EdgesTest.refused(c, x, "from -1", () -> x.move(0, 1, -1));
        c.due("from least", x.move(0, 1, Integer.MIN_VALUE), false);
        c.due("on its coming", x.move(0, 1, 5), true);
        c.due("where it was then", x.place(0, 5, 10), 1);
    }

    /** "False: no such .. DAY": not behind NOW. */
    static void p8_behindNow(Check c) {
        ScrapHouse x = cameOn5();
        EdgesTest.refused(c, x, "from 11", () -> x.move(0, 1, 11));
        c.due("from 2,001", x.move(0, 1, 2001), false);
        c.due("from greatest", x.move(0, 1, Integer.MAX_VALUE), false);
        c.due("NOW", x.move(0, 1, 10), true);
        c.due("where it is", x.place(0, 10, 10), 1);
        c.due("where it was", x.place(0, 9, 10), 0);
    }

    /** "if on that DAY (as known NOW) it is at 14": to whatever PLACE. */
    static void p8_refusedAt14(Check c) {
        goneFrom7(c, 14);
    }

    /** "if on that DAY (as known NOW) it is at .. 15". */
    static void p8_refusedAt15(Check c) {
        goneFrom7(c, 15);
    }

    private static void goneFrom7(Check c, int end) {
        ScrapHouse x = cameOn5();
        c.due("to " + end, x.move(0, end, 7), true);
        for (int place = 0; place <= 15; place++) {
            c.due("on the DAY to " + place, x.move(0, place, 7), false);
            c.due("the DAY after to " + place, x.move(0, place, 8), false);
            c.due("NOW to " + place, x.move(0, place, 10), false);
        }
        EdgesTest.refused(c, x, "on the DAY", () -> x.move(0, 0, 7));
        c.due("the DAY ahead of it", x.move(0, 3, 6), true);
        c.due("day 6", x.place(0, 6, 10), 3);
        c.due("day 7", x.place(0, 7, 10), end);
        x.days(5);
        c.due("DAYS later", x.move(0, 0, 15), false);
    }

    /** 13, bound out, is not 14 or 15: it may be moved from there. */
    static void p8_notRefusedAt13(Check c) {
        ScrapHouse x = cameOn5();
        x.move(0, 13, 7);
        c.due("on the DAY", x.move(0, 0, 7), true);
        x.move(0, 13, 7);
        c.due("behind it", x.move(0, 12, 8), true);
    }

    /** "on that DAY": a CHILD that was at 14 on other DAYS alone may be moved. */
    static void p8_goneOnOtherDaysAlone(Check c) {
        ScrapHouse x = cameOn5();
        x.move(0, 0, 9);
        x.move(0, 14, 7);
        c.due("gone on 7", x.move(0, 1, 7), false);
        c.due("gone on 8", x.move(0, 1, 8), false);
        c.due("not on 6", x.move(0, 1, 6), true);
        c.due("not on 9", x.move(0, 1, 9), true);
        c.due("not on 10", x.move(0, 1, 10), true);
    }

    /** Gone from its coming on: there is no DAY left for a MOVE. */
    static void p8_goneFromItsComing(Check c) {
        ScrapHouse x = cameOn5();
        x.move(0, 15, 5);
        for (int from = 4; from <= 11; from++) {
            c.due("from " + from, x.move(0, 0, from), false);
        }
    }

    /** "more CHILDREN are with her than she has beds": as many are not more. */
    static void p8_asManyAsBeds(Check c) {
        for (int beds = 1; beds <= 3; beds++) {
            ScrapHouse x = Check.houseWith(4);
            x.beds(12, beds);
            for (int child = 0; child < 4; child++) {
                c.due(beds + " beds, child " + child, x.move(child, 12, 0), child < beds);
            }
            c.due("with her", x.many(12, 0, 0), beds);
            c.due("moves told", x.count(3), beds);
        }
    }

    /** NURSE 4, of one bed, has a CHILD from a DAY to a DAY, of ten; another is in the house. */
    private static ScrapHouse fullFromTo(int first, int last) {
        ScrapHouse x = Check.houseWith(2);
        x.beds(4, 1);
        x.days(9);
        x.move(0, 4, first);
        if (last < 9) {
            x.move(0, 0, last + 1);
        }
        return x;
    }

    /** "on some DAY from it on": the DAY itself. */
    static void p8_fullOnTheDay(Check c) {
        ScrapHouse x = fullFromTo(3, 5);
        EdgesTest.refused(c, x, "from 3", () -> x.move(1, 4, 3));
        EdgesTest.refused(c, x, "from 5", () -> x.move(1, 4, 5));
        c.due("from 6", x.move(1, 4, 6), true);
    }

    /** "on some DAY from it on": a later one, though on the DAY itself there is room. */
    static void p8_fullLater(Check c) {
        ScrapHouse x = fullFromTo(3, 5);
        EdgesTest.refused(c, x, "from 2", () -> x.move(1, 4, 2));
        EdgesTest.refused(c, x, "from 0", () -> x.move(1, 4, 0));
    }

    /** "up to NOW": full NOW alone. */
    static void p8_fullNowAlone(Check c) {
        ScrapHouse x = fullFromTo(9, 9);
        EdgesTest.refused(c, x, "from 9", () -> x.move(1, 4, 9));
        EdgesTest.refused(c, x, "from 8", () -> x.move(1, 4, 8));
        x.days(1);
        EdgesTest.refused(c, x, "the next DAY", () -> x.move(1, 4, 10));
    }

    /** "from it on": DAYS ahead of the MOVE on which she was full do not count. */
    static void p8_fullEarlierAlone(Check c) {
        ScrapHouse x = fullFromTo(0, 3);
        c.due("from 4", x.move(1, 4, 4), true);
        c.due("with her on 3", x.many(4, 3, 9), 1);
        c.due("with her on 4", x.many(4, 4, 9), 1);
    }

    /** "with the MOVE": it lasts up to the CHILD's next one alone. */
    static void p8_fullBehindItsNextMove(Check c) {
        ScrapHouse x = fullFromTo(3, 9);
        x.move(1, 0, 3);
        c.due("up to 2", x.move(1, 4, 1), true);
        ScrapHouse y = fullFromTo(3, 9);
        y.move(1, 0, 4);
        c.due("up to 3", y.move(1, 4, 1), false);
    }

    /** "with the MOVE": who is with her already is not one more. */
    static void p8_whoIsThereIsNotOneMore(Check c) {
        ScrapHouse x = fullFromTo(3, 9);
        c.due("on the DAY", x.move(0, 4, 3), true);
        c.due("later", x.move(0, 4, 6), true);
        c.due("earlier", x.move(0, 4, 1), true);
        c.due("with her", x.many(4, 6, 9), 1);
    }

    /** "as known NOW": a bed that was full, as known then, and is free, as known NOW. */
    static void p8_fullAsKnownNow(Check c) {
        ScrapHouse x = fullFromTo(3, 9);
        x.days(1);
        x.move(0, 5, 3);
        c.due("it was with another", x.move(1, 4, 3), true);
        c.due("full again", x.move(0, 4, 3), false);
    }

    /** Beds are NURSES': the house and 13, 14, 15 take all. */
    static void p8_otherPlacesHaveNoBeds(Check c) {
        int[] places = {0, 13, 14, 15};
        for (int place : places) {
            ScrapHouse x = Check.houseWith(5);
            for (int child = 0; child < 5; child++) {
                c.due("child " + child + " to " + place, x.move(child, place, 0), true);
            }
            c.due("there", x.many(place, 0, 0), 5);
        }
    }

    /** Each NURSE's own beds: 1 and 12 are NURSES, and another's being full is nothing to her. */
    static void p8_eachNursesOwnBeds(Check c) {
        ScrapHouse x = Check.houseWith(24);
        for (int child = 0; child < 24; child++) {
            c.due("child " + child, x.move(child, 1 + child / 2, 0), true);
        }
        Check.leave(x, 0, 0, 0, 0);
        for (int nurse = 1; nurse <= 12; nurse++) {
            c.due("one more to " + nurse, x.move(24, nurse, 0), false);
        }
        c.due("to 13", x.move(24, 13, 0), true);
    }

    /** "False: .. 300 were told": of all CHILDREN together. */
    static void p8_threeHundred(Check c) {
        ScrapHouse x = Check.houseWith(3);
        for (int k = 0; k < 299; k++) {
            c.due("move " + k, x.move(k % 3, k % 14, 0), true);
        }
        c.due("refused ones are not told", x.move(0, 16, 0), false);
        c.due("nor do they count", x.count(3), 299);
        c.due("the 300th", x.move(2, 13, 0), true);
        EdgesTest.refused(c, x, "a 301st", () -> x.move(0, 0, 0));
        c.due("of another child", x.move(1, 0, 0), false);
        c.due("300 in all", x.count(3), 300);
        c.due("the 300th counts", x.place(2, 0, 0), 13);
    }

    /** A refused MOVE is as if it had not been told: a later one finds the bed. */
    static void p8_refusedIsNotTold(Check c) {
        ScrapHouse x = fullFromTo(3, 5);
        x.move(1, 4, 2);
        x.move(1, 4, 5);
        c.due("nothing of it", x.told(1, 7), 0);
        x.move(0, 0, 3);
        c.due("nobody is with her", x.many(4, 4, 9), 0);
        c.due("then it may", x.move(1, 4, 2), true);
    }
}

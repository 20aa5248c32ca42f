/** Promise 19: bounds of a claim, facts at their ends, and how many it holds of. */
final class EdgesOfClaims {
    private static final int ALL = 16_777_215;

    private EdgesOfClaims() { }

    private static void outOfBounds(Check c, int edge, int threads, int first, int last, int sex, int mark) {
        String call = "claim(" + edge + ", " + threads + ", " + first + ", " + last + ", " + sex + ", " + mark + ")";
        c.due(call + " of nobody", new ScrapHouse().claim(edge, threads, first, last, sex, mark), -3);
        ScrapHouse x = Check.houseWith(1);
        c.due(call + " without a rule", x.claim(edge, threads, first, last, sex, mark), -3);
        Check.setRule(x, "o<9");
        EdgesTest.refused(c, x, call, () -> x.claim(edge, threads, first, last, sex, mark), -3);
    }

    private static void within(Check c, int edge, int threads, int first, int last, int sex, int mark) {
        ScrapHouse x = Check.houseWith(1);
        Check.setRule(x, "o<9");
        c.due("claim(" + edge + ", " + threads + ", " + first + ", " + last + ", " + sex + ", " + mark + ")",
            x.claim(edge, threads, first, last, sex, mark), 0);
    }

    /** One CHILD, left on DAY 5 with sex 1 and mark 4, NOW being 8: does a RULE hold of it? */
    private static void holds(Check c, String rule, int first, int last, int sex, int mark, boolean want) {
        ScrapHouse x = new ScrapHouse();
        x.days(5);
        Check.leave(x, 1, 4, 0, 0);
        x.days(3);
        c.due("rule " + rule, Check.setRule(x, rule), true);
        c.due(rule + ", " + first + " .. " + last + ", " + sex + ", " + mark,
            x.claim(ALL, 0, first, last, sex, mark), want ? 0 : -1);
    }

    /** "-3: out of bounds": an EDGE. */
    static void p19_edgeOutOfBounds(Check c) {
        outOfBounds(c, -1, 0, 0, 0, 0, 0);
        outOfBounds(c, ALL + 1, 0, 0, 0, 0, 0);
        outOfBounds(c, Integer.MIN_VALUE, 0, 0, 0, 0, 0);
        outOfBounds(c, Integer.MAX_VALUE, 0, 0, 0, 0, 0);
        within(c, 0, 0, 0, 0, 0, 0);
        within(c, ALL, 0, 0, 0, 0, 0);
    }

    /** "-3: out of bounds": THREADS. */
    static void p19_threadsOutOfBounds(Check c) {
        outOfBounds(c, 0, -1, 0, 0, 0, 0);
        outOfBounds(c, 0, ALL + 1, 0, 0, 0, 0);
        outOfBounds(c, 0, Integer.MIN_VALUE, 0, 0, 0, 0);
        outOfBounds(c, 0, Integer.MAX_VALUE, 0, 0, 0, 0);
        within(c, 0, ALL, 0, 0, 0, 0);
    }

    /** "DAYS 0 .. 2,000": also those behind NOW. */
    static void p19_daysOutOfBounds(Check c) {
        outOfBounds(c, 0, 0, -1, 0, 0, 0);
        outOfBounds(c, 0, 0, -1, -1, 0, 0);
        outOfBounds(c, 0, 0, 0, 2001, 0, 0);
        outOfBounds(c, 0, 0, 2001, 2001, 0, 0);
        outOfBounds(c, 0, 0, Integer.MIN_VALUE, Integer.MAX_VALUE, 0, 0);
        outOfBounds(c, 0, 0, 0, Integer.MAX_VALUE, 0, 0);
        outOfBounds(c, 0, 0, Integer.MIN_VALUE, 0, 0, 0);
        within(c, 0, 0, 0, 2000, 0, 0);
        within(c, 0, 0, 2000, 2000, 0, 0);
    }

    /** "the first not behind the last". */
    static void p19_firstBehindLast(Check c) {
        outOfBounds(c, 0, 0, 1, 0, 0, 0);
        outOfBounds(c, 0, 0, 2000, 1999, 0, 0);
        outOfBounds(c, 0, 0, 0, -1, 0, 0);
        outOfBounds(c, 0, 0, 2001, 2000, 0, 0);
        within(c, 0, 0, 0, 0, 0, 0);
        within(c, 0, 0, 1999, 2000, 0, 0);
    }

    /** "sex NONE .. 1". */
    static void p19_sexOutOfBounds(Check c) {
        outOfBounds(c, 0, 0, 0, 0, -2, 0);
        outOfBounds(c, 0, 0, 0, 0, 2, 0);
        outOfBounds(c, 0, 0, 0, 0, Integer.MIN_VALUE, 0);
        outOfBounds(c, 0, 0, 0, 0, Integer.MAX_VALUE, 0);
        within(c, 0, 0, 0, 0, -1, 0);
        within(c, 0, 0, 0, 0, 0, 0);
        within(c, 0, 0, 0, 0, 1, 0);
    }

    /** "mark NONE .. 9". */
    static void p19_markOutOfBounds(Check c) {
        outOfBounds(c, 0, 0, 0, 0, 0, -2);
        outOfBounds(c, 0, 0, 0, 0, 0, 10);
        outOfBounds(c, 0, 0, 0, 0, 0, Integer.MIN_VALUE);
        outOfBounds(c, 0, 0, 0, 0, 0, Integer.MAX_VALUE);
        within(c, 0, 0, 0, 0, 0, -1);
        within(c, 0, 0, 0, 0, 0, 0);
        within(c, 0, 0, 0, 0, 0, 9);
    }

    /** "ahead of the first one no claim holds". */
    static void p19_noRule(Check c) {
        c.due("of one", Check.houseWith(1).claim(ALL, 0, 0, 0, 0, 0), -1);
        c.due("of several", Check.houseWith(3).claim(ALL, 0, 0, 0, 0, 0), -1);
        c.due("of nobody", new ScrapHouse().claim(ALL, 0, 0, 0, 0, 0), -1);
    }

    /** A RULE, and nobody of whom it could hold. */
    static void p19_nobody(Check c) {
        ScrapHouse x = new ScrapHouse();
        Check.setRule(x, "o<9");
        c.due("nobody", x.claim(0, 0, 0, 0, -1, -1), -1);
        Check.setRule(x, "c=0");
        c.due("nobody, though c were 0", x.claim(0, 0, 0, 0, -1, -1), -1);
    }

    /** "the CHILD, if it holds of one alone; -2, if of several; NONE": none, one, two, three, 60. */
    static void p19_noneOneSeveral(Check c) {
        int[] many = {0, 1, 2, 3, 4, 60};
        for (int marked : many) {
            ScrapHouse x = new ScrapHouse();
            for (int child = 0; child < 60; child++) {
                Check.leave(x, 0, child < 60 - marked ? 1 : 7, 0, 0);
            }
            Check.setRule(x, "w=0");
            c.due(marked + " of 60", x.claim(0, 0, 0, 0, -1, 7), marked == 0 ? -1 : marked == 1 ? 59 : -2);
        }
    }

    /** The first CHILD is 0, which is an ANSWER like others. */
    static void p19_theFirstChild(Check c) {
        ScrapHouse x = new ScrapHouse();
        Check.leave(x, 1, 0, 0, 0);
        Check.leave(x, 0, 0, 0, 0);
        Check.leave(x, 0, 0, 0, 0);
        Check.setRule(x, "w=0");
        c.due("the first alone", x.claim(0, 0, 0, 0, 1, -1), 0);
        Check.leave(x, 1, 0, 0, 0);
        c.due("the first and the last", x.claim(0, 0, 0, 0, 1, -1), -2);
    }

    /** "For each CHILD that is not at 14 or 15 NOW": at every other PLACE it is one. */
    static void p19_notAt14Or15(Check c) {
        for (int place = 0; place <= 15; place++) {
            ScrapHouse x = Check.houseWith(1);
            Check.setRule(x, "o<9");
            x.days(1);
            x.move(0, place, 1);
            c.due("at " + place, x.claim(0, 0, 0, 0, -1, -1), place < 14 ? 0 : -1);
        }
    }

    /** "NOW, as known NOW": gone on other DAYS alone is not gone; gone NOW alone is. */
    static void p19_goneNow(Check c) {
        ScrapHouse x = Check.houseWith(2);
        x.days(9);
        Check.setRule(x, "o<9");
        x.move(0, 0, 9);
        x.move(0, 14, 3);
        x.move(1, 15, 9);
        c.due("gone up to 8, and gone from 9 on", x.claim(0, 0, 0, 0, -1, -1), 0);
        x.days(1);
        c.due("the next DAY", x.claim(0, 0, 0, 0, -1, -1), 0);
    }

    /** "its DAY within the span": the span's first DAY and its last one are. */
    static void p19_theSpansEnds(Check c) {
        for (int first = 0; first <= 8; first++) {
            for (int last = first; last <= 8; last++) {
                boolean within = first <= 5 && 5 <= last;
                holds(c, "f=1&w=0", first, last, -1, -1, within);
                holds(c, "f=0&w=1", first, last, -1, -1, !within);
            }
        }
    }

    /** "its sex .. if told": NONE neither agrees nor does not. */
    static void p19_sexIfTold(Check c) {
        holds(c, "f=1&w=0", 0, 9, -1, -1, true);
        holds(c, "f=1&w=1", 0, 9, 0, -1, true);
        holds(c, "f=2&w=0", 0, 9, 1, -1, true);
    }

    /** "its mark, if told": NONE neither agrees nor does not. */
    static void p19_markIfTold(Check c) {
        holds(c, "f=1&w=1", 0, 9, -1, 3, true);
        holds(c, "f=2&w=0", 0, 9, -1, 4, true);
        holds(c, "f=1&w=1", 0, 9, -1, 5, true);
        holds(c, "f=1&w=1", 0, 9, -1, 0, true);
    }

    /** f and w at their least and their most: 0 and 3. */
    static void p19_allFactsAndNone(Check c) {
        holds(c, "f=3&w=0", 5, 5, 1, 4, true);
        holds(c, "f=0&w=3", 6, 9, 0, 9, true);
        holds(c, "f=0&w=3", 0, 4, 0, 0, true);
    }

    /** "o how far its half is OFF": 0 and 8. */
    static void p19_offAtItsEnds(Check c) {
        ScrapHouse x = Check.houseWith(1);
        Check.setRule(x, "o=0");
        c.due("0", x.claim(ALL, 0, 0, 0, -1, -1), 0);
        c.due("not 0", x.claim(ALL ^ 1, 0, 0, 0, -1, -1), -1);
        Check.setRule(x, "o=8");
        c.due("8", x.claim(0, 0, 0, 0, -1, -1), 0);
        c.due("7", x.claim(7, 0, 0, 0, -1, -1), -1);
    }

    /** "c how many such CHILDREN have w 0": 0, and 60; one that is gone is not such. */
    static void p19_cAtItsEnds(Check c) {
        ScrapHouse x = Check.houseWith(60);
        Check.setRule(x, "c=60");
        c.due("60", x.claim(0, 0, 0, 0, -1, -1), -2);
        x.move(59, 14, 0);
        c.due("59", x.claim(0, 0, 0, 0, -1, -1), -1);
        Check.setRule(x, "c=59");
        c.due("59 again", x.claim(0, 0, 0, 0, -1, -1), -2);
        Check.setRule(x, "c=0");
        c.due("0", x.claim(0, 0, 1, 1, -1, -1), -2);
        c.due("not 0", x.claim(0, 0, 0, 1, -1, -1), -1);
    }

    /** "c how many such CHILDREN": of those that are not at 14 or 15 NOW, wherever they were once. */
    static void p19_cOfThoseNotGoneNow(Check c) {
        ScrapHouse x = Check.houseWith(3);
        x.days(9);
        x.move(0, 0, 9);
        x.move(0, 15, 0);
        x.move(1, 14, 9);
        Check.setRule(x, "c=2");
        c.due("gone up to 8, gone from 9 on, never gone", x.claim(0, 0, 0, 0, -1, -1), -2);
        x.move(2, 15, 5);
        Check.setRule(x, "c=1");
        c.due("one is left", x.claim(0, 0, 0, 0, -1, -1), 0);
    }

    /** "d NOW less its DAY": 0 and 2,000. */
    static void p19_dAtItsEnds(Check c) {
        ScrapHouse x = Check.houseWith(1);
        Check.setRule(x, "d=0");
        c.due("0", x.claim(0, 0, 0, 0, -1, -1), 0);
        x.days(1);
        c.due("1", x.claim(0, 0, 0, 0, -1, -1), -1);
        x.days(1000);
        x.days(999);
        Check.setRule(x, "d=2000");
        c.due("2,000", x.claim(0, 0, 0, 0, -1, -1), 0);
        Check.leave(x, 0, 0, 0, 0);
        c.due("2,000 alone", x.claim(0, 0, 0, 0, -1, -1), 0);
        Check.setRule(x, "d=0");
        c.due("left today", x.claim(0, 0, 0, 0, -1, -1), 1);
    }

    /** = < > at the number itself and on both sides of it. */
    static void p19_signsAtTheNumber(Check c) {
        holds(c, "d=2", 0, 9, -1, -1, false);
        holds(c, "d=3", 0, 9, -1, -1, true);
        holds(c, "d=4", 0, 9, -1, -1, false);
        holds(c, "d<2", 0, 9, -1, -1, false);
        holds(c, "d<3", 0, 9, -1, -1, false);
        holds(c, "d<4", 0, 9, -1, -1, true);
        holds(c, "d>2", 0, 9, -1, -1, true);
        holds(c, "d>3", 0, 9, -1, -1, false);
        holds(c, "d>4", 0, 9, -1, -1, false);
    }

    /** "a number (1 to 4 digits)": at its ends, and with 0 ahead. */
    static void p19_numbersAtTheirEnds(Check c) {
        holds(c, "d<9999", 0, 9, -1, -1, true);
        holds(c, "d>9999", 0, 9, -1, -1, false);
        holds(c, "d=0003", 0, 9, -1, -1, true);
        holds(c, "d=3000", 0, 9, -1, -1, false);
        holds(c, "o=0000", 0, 9, -1, -1, true);
        holds(c, "o<0", 0, 9, -1, -1, false);
        holds(c, "o>0", 0, 9, -1, -1, false);
    }

    /** Parts with | between, units with & between: & goes ahead of | . */
    static void p19_andAheadOfOr(Check c) {
        holds(c, "o=0|o=1&o=1", 0, 9, -1, -1, true);
        holds(c, "o=1&o=1|o=0", 0, 9, -1, -1, true);
        holds(c, "(o=0|o=1)&o=1", 0, 9, -1, -1, false);
        holds(c, "o=1&(o=1|o=0)", 0, 9, -1, -1, false);
        holds(c, "o=1|o=0&o=1", 0, 9, -1, -1, false);
        holds(c, "o=1|o=1|o=0", 0, 9, -1, -1, true);
        holds(c, "o=0&o=0&o=1", 0, 9, -1, -1, false);
    }

    /** Eight ( within one another decide as one would. */
    static void p19_eightBrackets(Check c) {
        holds(c, "((((((((o=0|o=1))))))))&d=3", 0, 9, -1, -1, true);
        holds(c, "((((((((o=1|o=2))))))))&d=3", 0, 9, -1, -1, false);
    }

    /** A CLAIM that holds changes nothing: it may be made again. */
    static void p19_changesNothing(Check c) {
        ScrapHouse x = Check.houseWith(1);
        Check.setRule(x, "o<9");
        EdgesTest.refused(c, x, "claim", () -> x.claim(0, 0, 0, 0, -1, -1), 0);
        c.due("again", x.claim(0, 0, 0, 0, -1, -1), 0);
        c.due("it is in the house", x.place(0, 0, 0), 0);
    }
}

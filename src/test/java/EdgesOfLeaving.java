/** Promises 6 and 24: bounds of a child that is left, and of what is told of it. */
final class EdgesOfLeaving {
    private EdgesOfLeaving() { }

    private static void refusedChild(Check c, int sex, int mark, int edge, int threads) {
        ScrapHouse x = new ScrapHouse();
        x.ballot(2, 2, 0, 1L);
        String call = "leave(0, 0, " + sex + ", " + mark + ", " + edge + ", " + threads + ")";
        EdgesTest.refused(c, x, call, () -> x.leave(0, 0, sex, mark, edge, threads), -1);
        c.due("she has white still after " + call, x.leave(0, 0, 0, 0, 0, 0), 0);
    }

    private static void leaves(Check c, int sex, int mark, int edge, int threads) {
        ScrapHouse x = new ScrapHouse();
        x.ballot(1, 1, 0, 1L);
        c.due("leave(0, 0, " + sex + ", " + mark + ", " + edge + ", " + threads + ")",
            x.leave(0, 0, sex, mark, edge, threads), 0);
        c.due("its sex", x.told(0, 1), sex);
        c.due("its mark", x.told(0, 2), mark);
        c.due("its edge", x.told(0, 3), edge);
        c.due("its threads", x.told(0, 4), threads);
    }

    /** "NONE: no such one": no such BALLOT. */
    static void p6_noSuchBallot(Check c) {
        ScrapHouse x = new ScrapHouse();
        c.due("none at first", x.leave(0, 0, 0, 0, 0, 0), -1);
        x.ballot(1, 1, 0, 1L);
        EdgesTest.refused(c, x, "ballot 1", () -> x.leave(1, 0, 0, 0, 0, 0), -1);
        EdgesTest.refused(c, x, "ballot -1", () -> x.leave(-1, 0, 0, 0, 0, 0), -1);
        for (int far : EdgesTest.FAR) {
            c.due("ballot " + far, x.leave(far, 0, 0, 0, 0, 0), -1);
        }
    }

    /** "NONE: no such one": no such woman. */
    static void p6_noSuchWoman(Check c) {
        ScrapHouse x = new ScrapHouse();
        x.ballot(2, 2, 0, 1L);
        EdgesTest.refused(c, x, "woman 2", () -> x.leave(0, 2, 0, 0, 0, 0), -1);
        EdgesTest.refused(c, x, "woman -1", () -> x.leave(0, -1, 0, 0, 0, 0), -1);
        for (int far : EdgesTest.FAR) {
            c.due("woman " + far, x.leave(0, far, 0, 0, 0, 0), -1);
        }
        c.due("the last woman", x.leave(0, 1, 0, 0, 0, 0), 0);
    }

    /** "she has not white": red, black, a child left, away; white instead of red is white. */
    static void p6_sheHasNotWhite(Check c) {
        ScrapHouse x = new ScrapHouse();
        x.ballot(6, 2, 2, 1L);
        EdgesTest.refused(c, x, "red", () -> x.leave(0, 0, 0, 0, 0, 0), -1);
        EdgesTest.refused(c, x, "black", () -> x.leave(0, 1, 0, 0, 0, 0), -1);
        c.due("white", x.leave(0, 2, 0, 0, 0, 0), 0);
        EdgesTest.refused(c, x, "who left one", () -> x.leave(0, 2, 0, 0, 0, 0), -1);
        x.away(0, 3);
        c.due("who was sent away", x.leave(0, 3, 0, 0, 0, 0), -1);
        c.due("who has white instead of red", x.leave(0, 0, 0, 0, 0, 0), 1);
        c.due("the other with red", x.leave(0, 4, 0, 0, 0, 0), -1);
    }

    /** "a sex (0, 1)". */
    static void p6_sexOutOfBounds(Check c) {
        refusedChild(c, -1, 0, 0, 0);
        refusedChild(c, 2, 0, 0, 0);
        refusedChild(c, Integer.MIN_VALUE, 0, 0, 0);
        refusedChild(c, Integer.MAX_VALUE, 0, 0, 0);
        leaves(c, 0, 5, 0, 0);
        leaves(c, 1, 5, 0, 0);
    }

    /** "a mark (0 .. 9)". */
    static void p6_markOutOfBounds(Check c) {
        refusedChild(c, 0, -1, 0, 0);
        refusedChild(c, 0, 10, 0, 0);
        refusedChild(c, 0, Integer.MIN_VALUE, 0, 0);
        refusedChild(c, 0, Integer.MAX_VALUE, 0, 0);
        leaves(c, 0, 0, 0, 0);
        leaves(c, 0, 9, 0, 0);
    }

    /** An EDGE, "0 .. 16,777,215". */
    static void p6_edgeOutOfBounds(Check c) {
        refusedChild(c, 0, 0, -1, 0);
        refusedChild(c, 0, 0, 16_777_216, 0);
        refusedChild(c, 0, 0, Integer.MIN_VALUE, 0);
        refusedChild(c, 0, 0, Integer.MAX_VALUE, 0);
        leaves(c, 0, 0, 0, 9);
        leaves(c, 0, 0, 16_777_215, 9);
    }

    /** THREADS, "0 .. 16,777,215". */
    static void p6_threadsOutOfBounds(Check c) {
        refusedChild(c, 0, 0, 0, -1);
        refusedChild(c, 0, 0, 0, 16_777_216);
        refusedChild(c, 0, 0, 0, Integer.MIN_VALUE);
        refusedChild(c, 0, 0, 0, Integer.MAX_VALUE);
        leaves(c, 0, 0, 9, 0);
        leaves(c, 0, 0, 9, 16_777_215);
    }

    /** "NONE: .. there are 60": she has white still. */
    static void p6_sixtyChildren(Check c) {
        ScrapHouse x = Check.houseWith(59);
        x.ballot(2, 2, 0, 1L);
        c.due("a refused one takes no number", x.leave(3, 0, 2, 0, 0, 0), -1);
        c.due("the 60th", x.leave(3, 0, 0, 0, 0, 0), 59);
        c.due("a 61st", x.leave(3, 1, 0, 0, 0, 0), -1);
        c.due("she has white", x.ball(3, 1), 0);
        c.due("60 in all", x.count(1), 60);
        c.due("the 60th is there", x.told(59, 6), 0);
        c.due("a 61st is not", x.told(60, 6), -1);
        c.due("who is sent away then", x.away(3, 1), -1);
    }

    /** "numbered as they are left": not as women drew, not as BALLOTS were. */
    static void p6_numberedAsTheyAreLeft(Check c) {
        ScrapHouse x = new ScrapHouse();
        x.ballot(2, 2, 0, 1L);
        x.ballot(2, 2, 0, 1L);
        c.due("first", x.leave(1, 1, 0, 1, 0, 0), 0);
        c.due("second", x.leave(0, 1, 0, 2, 0, 0), 1);
        c.due("third", x.leave(1, 0, 0, 3, 0, 0), 2);
        int[] ballots = {1, 0, 1};
        int[] women = {1, 1, 0};
        for (int child = 0; child < 3; child++) {
            c.due("mark of " + child, x.told(child, 2), child + 1);
            c.due("ballot of " + child, x.told(child, 5), ballots[child]);
            c.due("woman of " + child, x.told(child, 6), women[child]);
        }
    }

    /** A CHILD may be left on the first DAY and on the last one. */
    static void p6_onTheFirstAndTheLastDay(Check c) {
        ScrapHouse x = Check.houseWith(1);
        x.days(1000);
        x.days(1000);
        c.due("on day 2,000", Check.leave(x, 0, 0, 0, 0), 1);
        c.due("day of the first", x.told(0, 0), 0);
        c.due("day of the other", x.told(1, 0), 2000);
    }

    /** "NONE for others": no such CHILD. */
    static void p24_noSuchChild(Check c) {
        c.due("none at first", new ScrapHouse().told(0, 0), -1);
        ScrapHouse x = Check.houseWith(2);
        for (int what = 0; what <= 7; what++) {
            c.due("told(2, " + what + ")", x.told(2, what), -1);
            c.due("told(-1, " + what + ")", x.told(-1, what), -1);
        }
        for (int far : EdgesTest.FAR) {
            c.due("told(" + far + ", 0)", x.told(far, 0), -1);
        }
    }

    /** "NONE for others": what is 0 .. 7. */
    static void p24_noSuchWhat(Check c) {
        ScrapHouse x = Check.houseWith(1);
        c.due("told(0, -1)", x.told(0, -1), -1);
        c.due("told(0, 8)", x.told(0, 8), -1);
        for (int far : EdgesTest.FAR) {
            c.due("told(0, " + far + ")", x.told(0, far), -1);
        }
    }

    /** Each what has the greatest number that it can have. */
    static void p24_eachAtItsMost(Check c) {
        ScrapHouse x = new ScrapHouse();
        x.days(1000);
        x.days(1000);
        for (int k = 0; k < 50; k++) {
            x.ballot(20, 20, 0, k);
        }
        x.leave(49, 19, 1, 9, 16_777_215, 16_777_214);
        for (int k = 0; k < 300; k++) {
            x.move(0, 0, 2000);
        }
        int[] due = {2000, 1, 9, 16_777_215, 16_777_214, 49, 19, 300};
        for (int what = 0; what < due.length; what++) {
            c.due("told(0, " + what + ")", x.told(0, what), due[what]);
        }
    }

    /** "7 how many MOVES were told": of that CHILD, and not those refused. */
    static void p24_movesRefusedAreNotTold(Check c) {
        ScrapHouse x = Check.houseWith(2);
        c.due("none at first", x.told(0, 7), 0);
        x.move(0, 16, 0);
        x.move(0, 0, 1);
        x.beds(1, 1);
        x.move(1, 1, 0);
        x.move(0, 1, 0);
        c.due("refused ones", x.told(0, 7), 0);
        c.due("the other's", x.told(1, 7), 1);
        x.move(0, 15, 0);
        x.move(0, 0, 0);
        c.due("one, and one refused behind it", x.told(0, 7), 1);
    }
}

/** Promises 3, 4 and 5: bounds of a ballot, its draws, and women who are sent away. */
final class EdgesOfBallots {
    private static final int LEAST = Integer.MIN_VALUE;
    private static final int GREATEST = Integer.MAX_VALUE;

    private EdgesOfBallots() { }

    private static void refusedBallot(Check c, int n, int white, int red) {
        ScrapHouse x = new ScrapHouse();
        x.ballot(2, 1, 1, 1L);
        String call = "ballot(" + n + ", " + white + ", " + red + ")";
        EdgesTest.refused(c, x, call, () -> x.ballot(n, white, red, 1L), -1);
        c.due("the next one's number after " + call, x.ballot(1, 1, 0, 1L), 1);
    }

    private static String balls(ScrapHouse x, int ballot) {
        StringBuilder balls = new StringBuilder();
        for (int i = 0; i < 20 && x.ball(ballot, i) >= 0; i++) {
            balls.append(x.ball(ballot, i));
        }
        return balls.toString();
    }

    private static void drawn(Check c, int n, int white, int red, long seed, String want) {
        ScrapHouse x = new ScrapHouse();
        c.due("ballot", x.ballot(n, white, red, seed), 0);
        String got = balls(x, 0);
        c.due(n + ", " + white + ", " + red + ", " + seed + " drawn " + got + ", due " + want, got.equals(want), true);
    }

    /** n women, 1 .. 20: too few. */
    static void p3_nBelow1(Check c) {
        refusedBallot(c, 0, 0, 0);
        refusedBallot(c, -1, 0, 0);
        refusedBallot(c, -1, -1, 0);
        refusedBallot(c, LEAST, 0, 0);
    }

    /** n women, 1 .. 20: too many. */
    static void p3_nAbove20(Check c) {
        refusedBallot(c, 21, 0, 0);
        refusedBallot(c, 21, 10, 11);
        refusedBallot(c, GREATEST, 0, 0);
    }

    /** n women, 1 .. 20: the fewest and the most. */
    static void p3_nAt1And20(Check c) {
        drawn(c, 1, 1, 0, 5L, "0");
        drawn(c, 1, 0, 1, 5L, "1");
        drawn(c, 1, 0, 0, 5L, "2");
        drawn(c, 20, 19, 1, 1L, "00000000000000000100");
    }

    /** "white .. 0 or more". */
    static void p3_whiteBelow0(Check c) {
        refusedBallot(c, 3, -1, 0);
        refusedBallot(c, 3, -1, 2);
        refusedBallot(c, 3, -1, 4);
        refusedBallot(c, 3, LEAST, 0);
    }

    /** "red 0 or more". */
    static void p3_redBelow0(Check c) {
        refusedBallot(c, 3, 0, -1);
        refusedBallot(c, 3, 2, -1);
        refusedBallot(c, 3, 4, -1);
        refusedBallot(c, 3, 0, LEAST);
    }

    /** "together at most n": one too many, of one colour or of both. */
    static void p3_togetherAboveN(Check c) {
        refusedBallot(c, 3, 4, 0);
        refusedBallot(c, 3, 0, 4);
        refusedBallot(c, 3, 2, 2);
        refusedBallot(c, 20, 20, 1);
        refusedBallot(c, 1, 1, 1);
    }

    /** "together at most n": as many as n. */
    static void p3_togetherN(Check c) {
        drawn(c, 2, 2, 0, 7L, "00");
        drawn(c, 2, 0, 2, 7L, "11");
        ScrapHouse x = new ScrapHouse();
        c.due("10 and 10 of 20", x.ballot(20, 10, 10, 7L), 0);
        c.due("20 and 0 of 20", x.ballot(20, 20, 0, 7L), 1);
        c.due("0 and 20 of 20", x.ballot(20, 0, 20, 7L), 2);
    }

    /** White and red 0 or more: none of either is a BALLOT of black ones. */
    static void p3_noneWhiteNoneRed(Check c) {
        drawn(c, 8, 0, 0, 3L, "22222222");
    }

    /** Sums of white and red that go round the ints are out of bounds still. */
    static void p3_sumsThatGoRound(Check c) {
        refusedBallot(c, 3, GREATEST, GREATEST);
        refusedBallot(c, 3, GREATEST, 1);
        refusedBallot(c, 3, 2, GREATEST);
        refusedBallot(c, 3, LEAST, LEAST);
        refusedBallot(c, 3, LEAST, GREATEST);
    }

    /** "NONE: .. there are 50". */
    static void p3_fiftyBallots(Check c) {
        ScrapHouse x = new ScrapHouse();
        for (int k = 0; k < 49; k++) {
            c.due("ballot " + k, x.ballot(1, 1, 0, k), k);
        }
        c.due("a refused one takes no number", x.ballot(21, 0, 0, 1L), -1);
        c.due("the 50th", x.ballot(2, 1, 1, 1L), 49);
        EdgesTest.refused(c, x, "a 51st", () -> x.ballot(1, 1, 0, 1L), -1);
        c.due("the 50th is there", x.ball(49, 0) >= 0, true);
        c.due("a 51st is not", x.ball(50, 0), -1);
        c.due("50 in all", x.count(2), 50);
    }

    /** "64 bits, going round": seeds at both ends, and on both sides of 0. */
    static void p3_seedsAtTheEnds(Check c) {
        drawn(c, 20, 10, 5, 0L, "01022100000021011022");
        drawn(c, 20, 10, 5, -1L, "00010020101001202212");
        drawn(c, 20, 10, 5, Long.MAX_VALUE, "02100200102000211201");
        drawn(c, 20, 10, 5, Long.MIN_VALUE, "10212020002010001210");
    }

    /** "shifted right by 33, without sign": -1 and the least seed have x below 0 at the first draw. */
    static void p3_shiftWithoutSign(Check c) {
        drawn(c, 4, 1, 2, 2L, "0112");
        drawn(c, 6, 1, 4, 2L, "110211");
    }

    /** The one white, or the one red, is at an end of the line: it is drawn once. */
    static void p3_oneOfAColour(Check c) {
        drawn(c, 20, 1, 0, 1L, "22222222222222222202");
        drawn(c, 20, 0, 1, 1L, "22222222222222222212");
    }

    /** Each BALLOT begins with its own seed and its own line. */
    static void p3_ballotsShareNothing(Check c) {
        ScrapHouse x = new ScrapHouse();
        x.ballot(6, 2, 2, 1L);
        x.ballot(20, 10, 5, 0L);
        x.ballot(6, 2, 2, 1L);
        c.due("the first", balls(x, 0).equals("120012"), true);
        c.due("the same again", balls(x, 2).equals("120012"), true);
    }

    /** "NONE: no such one": no such BALLOT. */
    static void p4_noSuchBallot(Check c) {
        ScrapHouse x = new ScrapHouse();
        c.due("none at first", x.ball(0, 0), -1);
        x.ballot(2, 1, 1, 1L);
        c.due("ball(1, 0)", x.ball(1, 0), -1);
        c.due("ball(-1, 0)", x.ball(-1, 0), -1);
        for (int far : EdgesTest.FAR) {
            c.due("ball(" + far + ", 0)", x.ball(far, 0), -1);
        }
        c.due("ball(49, 0)", x.ball(49, 0), -1);
        c.due("ball(50, 0)", x.ball(50, 0), -1);
    }

    /** "NONE: no such one": no such woman, in BALLOTS of one and of twenty. */
    static void p4_noSuchWoman(Check c) {
        ScrapHouse x = new ScrapHouse();
        x.ballot(1, 1, 0, 1L);
        x.ballot(20, 0, 20, 1L);
        c.due("ball(0, 0)", x.ball(0, 0), 0);
        c.due("ball(0, 1)", x.ball(0, 1), -1);
        c.due("ball(1, 19)", x.ball(1, 19), 1);
        c.due("ball(1, 20)", x.ball(1, 20), -1);
        c.due("ball(0, -1)", x.ball(0, -1), -1);
        c.due("ball(1, -1)", x.ball(1, -1), -1);
        for (int far : EdgesTest.FAR) {
            c.due("ball(1, " + far + ")", x.ball(1, far), -1);
        }
    }

    /** 0 white, 1 red, 2 black, 3 sent away, 4 left a child: each of them, and asking changes none. */
    static void p4_eachOfTheFive(Check c) {
        ScrapHouse x = new ScrapHouse();
        x.ballot(6, 2, 2, 1L);
        x.leave(0, 2, 0, 0, 0, 0);
        x.away(0, 3);
        c.due("all five", balls(x, 0).equals("024312"), true);
        c.due("and again", balls(x, 0).equals("024312"), true);
    }

    /** "NONE: nobody waits": none had red; she is sent away all the same. */
    static void p5_nobodyWaits(Check c) {
        ScrapHouse x = new ScrapHouse();
        x.ballot(2, 2, 0, 1L);
        c.due("the last woman", x.away(0, 1), -1);
        c.due("she is away", x.ball(0, 1), 3);
        c.due("the other has white", x.ball(0, 0), 0);
        c.due("the first woman", x.away(0, 0), -1);
        c.due("she is away, too", x.ball(0, 0), 3);
    }

    /** "NONE: nobody waits": black ones do not. */
    static void p5_blackDoesNotWait(Check c) {
        ScrapHouse x = new ScrapHouse();
        x.ballot(20, 1, 0, 1L);
        c.due("away(0, 18)", x.away(0, 18), -1);
        c.due("nobody has white", balls(x, 0).equals("22222222222222222232"), true);
    }

    /** "NONE: nobody waits": those who did have white by now. */
    static void p5_nobodyWaitsAnyMore(Check c) {
        ScrapHouse x = new ScrapHouse();
        x.ballot(3, 1, 1, 42L);
        c.due("the one who waits", x.away(0, 1), 0);
        c.due("nobody more", x.away(0, 0), -1);
        c.due("at the end", balls(x, 0).equals("332"), true);
    }

    /** "the first of those with red (as they drew)", whether ahead of her or behind her. */
    static void p5_theFirstWithRed(Check c) {
        ScrapHouse x = new ScrapHouse();
        x.ballot(6, 1, 4, 4L);
        c.due("ahead of the last woman", x.away(0, 5), 0);
        c.due("then the second", x.away(0, 0), 1);
        c.due("then the third", x.away(0, 1), 2);
        c.due("then the fifth, for the fourth has black", x.away(0, 2), 4);
        c.due("at the end", balls(x, 0).equals("333203"), true);
        ScrapHouse y = new ScrapHouse();
        y.ballot(4, 1, 2, 2L);
        c.due("behind the first woman", y.away(0, 0), 1);
        c.due("one alone", balls(y, 0).equals("3012"), true);
    }

    /** "-2: .. she has not white": red, black, away already, a child left. */
    static void p5_sheHasNotWhite(Check c) {
        ScrapHouse x = new ScrapHouse();
        x.ballot(6, 2, 2, 1L);
        EdgesTest.refused(c, x, "red", () -> x.away(0, 0), -2);
        EdgesTest.refused(c, x, "black", () -> x.away(0, 1), -2);
        x.leave(0, 2, 0, 0, 0, 0);
        EdgesTest.refused(c, x, "who left a child", () -> x.away(0, 2), -2);
        x.away(0, 3);
        EdgesTest.refused(c, x, "who was sent away", () -> x.away(0, 3), -2);
    }

    /** "-2: no such one": no such BALLOT, no such woman. */
    static void p5_noSuchOne(Check c) {
        ScrapHouse x = new ScrapHouse();
        c.due("none at first", x.away(0, 0), -2);
        x.ballot(2, 2, 0, 1L);
        EdgesTest.refused(c, x, "away(1, 0)", () -> x.away(1, 0), -2);
        EdgesTest.refused(c, x, "away(-1, 0)", () -> x.away(-1, 0), -2);
        EdgesTest.refused(c, x, "away(0, 2)", () -> x.away(0, 2), -2);
        EdgesTest.refused(c, x, "away(0, -1)", () -> x.away(0, -1), -2);
        for (int far : EdgesTest.FAR) {
            c.due("away(" + far + ", 0)", x.away(far, 0), -2);
            c.due("away(0, " + far + ")", x.away(0, far), -2);
        }
    }

    /** Who waits in another BALLOT has red still. */
    static void p5_ofHerOwnBallot(Check c) {
        ScrapHouse x = new ScrapHouse();
        x.ballot(2, 0, 2, 1L);
        x.ballot(1, 1, 0, 1L);
        x.ballot(2, 0, 2, 1L);
        c.due("nobody waits in hers", x.away(1, 0), -1);
        c.due("the one ahead of it", balls(x, 0).equals("11"), true);
        c.due("the one behind it", balls(x, 2).equals("11"), true);
    }
}

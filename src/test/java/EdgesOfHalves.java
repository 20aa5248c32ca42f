/** Promise 14: how far a half is off, from 0 to 8, at the first place and the last. */
final class EdgesOfHalves {
    private static final int ALL = 16_777_215;

    private EdgesOfHalves() { }

    private static ScrapHouse childWith(int edge, int threads) {
        ScrapHouse x = new ScrapHouse();
        Check.leave(x, 0, 0, edge, threads);
        return x;
    }

    /** "NONE: no such CHILD". */
    static void p14_noSuchChild(Check c) {
        c.due("none at first", new ScrapHouse().off(0, 0, 0), -1);
        ScrapHouse x = Check.houseWith(2);
        c.due("child 2", x.off(2, 0, 0), -1);
        c.due("child -1", x.off(-1, 0, 0), -1);
        for (int far : EdgesTest.FAR) {
            c.due("child " + far, x.off(far, 0, 0), -1);
        }
        c.due("the last child", x.off(1, ALL, 0), 0);
    }

    /** "out of bounds": an EDGE is 0 .. 16,777,215. */
    static void p14_edgeOutOfBounds(Check c) {
        ScrapHouse x = childWith(0, 0);
        c.due("edge -1", x.off(0, -1, 0), -1);
        c.due("edge 16,777,216", x.off(0, ALL + 1, 0), -1);
        for (int far : EdgesTest.FAR) {
            c.due("edge " + far, x.off(0, far, 0), -1);
        }
        c.due("edge 0", x.off(0, 0, 0), 8);
        c.due("edge 16,777,215", x.off(0, ALL, 0), 0);
    }

    /** "out of bounds": THREADS are 0 .. 16,777,215. */
    static void p14_threadsOutOfBounds(Check c) {
        ScrapHouse x = childWith(0, 0);
        c.due("threads -1", x.off(0, ALL, -1), -1);
        c.due("threads 16,777,216", x.off(0, ALL, ALL + 1), -1);
        for (int far : EdgesTest.FAR) {
            c.due("threads " + far, x.off(0, ALL, far), -1);
        }
        c.due("threads 0", x.off(0, ALL, 0), 0);
        c.due("threads 16,777,215", x.off(0, ALL, ALL), 8);
    }

    /** All numbers at their ends: 0 and 7 are 7 in sum, 0 and 0 are not, nor are 7 and 7. */
    static void p14_numbersAtTheirEnds(Check c) {
        c.due("7 and 0", childWith(ALL, ALL).off(0, 0, ALL), 0);
        c.due("0 and 7", childWith(0, ALL).off(0, ALL, ALL), 0);
        c.due("7 and 7", childWith(ALL, ALL).off(0, ALL, ALL), 8);
        c.due("0 and 0", childWith(0, ALL).off(0, 0, ALL), 8);
    }

    /** "the sum of both EDGES' numbers is not 7": each number with each other one, at one place. */
    static void p14_sumsOf7(Check c) {
        for (int own = 0; own <= 7; own++) {
            ScrapHouse x = childWith(own, 0);
            for (int other = 0; other <= 7; other++) {
                c.due(own + " and " + other, x.off(0, ALL - 7 + other, 0), own + other == 7 ? 0 : 1);
            }
        }
    }

    /** Places 0 .. 7, "place k: bits 3 k to 3 k + 2": each bit of each place, in EDGE and in THREADS. */
    static void p14_eachBitOfEachPlace(Check c) {
        // The threads' 1, 2, 3, 4 ahead keep the other way round far off.
        int threads = 1 | 2 << 3 | 3 << 6 | 4 << 9;
        ScrapHouse x = childWith(0, threads);
        for (int bit = 0; bit < 24; bit++) {
            c.due("edge, bit " + bit, x.off(0, ALL ^ 1 << bit, threads), 1);
            c.due("threads, bit " + bit, x.off(0, ALL, threads ^ 1 << bit), 1);
        }
    }

    /** "is not 7, or THREADS are unlike": both at one place are one place. */
    static void p14_bothAtOnePlace(Check c) {
        ScrapHouse x = childWith(0, 0);
        c.due("at place 0", x.off(0, ALL ^ 7, 7), 1);
        c.due("at place 7", x.off(0, ALL ^ 7 << 21, 7 << 21), 1);
        c.due("at all", x.off(0, 0, ALL), 8);
    }

    /** From 0 to 8 places: so many are off. */
    static void p14_from0To8(Check c) {
        ScrapHouse x = childWith(0, 0);
        for (int many = 0; many <= 8; many++) {
            c.due(many + " edges", x.off(0, ALL ^ (1 << 3 * many) - 1, 0), many);
            c.due(many + " threads", x.off(0, ALL, (1 << 3 * many) - 1), many);
        }
    }

    /** "its eight places the other way round": place 0 lies on place 7, and 3 on 4. */
    static void p14_theOtherWayRound(Check c) {
        for (int k = 0; k < 8; k++) {
            ScrapHouse x = childWith(0, 5 << 3 * k);
            for (int j = 0; j < 8; j++) {
                boolean meets = j == k || j == 7 - k;
                c.due("threads at " + k + " and " + j, x.off(0, ALL, 5 << 3 * j), meets ? 0 : 2);
            }
        }
    }

    /** "the lesser number": of the way as it is, and of the other one. */
    static void p14_theLesser(Check c) {
        int threads = 1 | 2 << 3 | 3 << 6 | 4 << 9;
        int turned = 1 << 21 | 2 << 18 | 3 << 15 | 4 << 12;
        ScrapHouse x = childWith(0, threads);
        c.due("0 as it is, 8 the other way", x.off(0, ALL, threads), 0);
        c.due("8 as it is, 0 the other way", x.off(0, ALL, turned), 0);
        c.due("1 as it is", x.off(0, ALL ^ 1, threads), 1);
        c.due("1 the other way", x.off(0, ALL ^ 1, turned), 1);
    }

    /** EDGE and THREADS turn together, not one of them alone. */
    static void p14_bothTurnTogether(Check c) {
        ScrapHouse x = childWith(7 << 21, 5);
        c.due("both as they are", x.off(0, ALL ^ 7 << 21, 5), 0);
        c.due("both turned", x.off(0, ALL ^ 7, 5 << 21), 0);
        c.due("edge turned alone", x.off(0, ALL ^ 7, 5), 2);
        c.due("threads turned alone", x.off(0, ALL ^ 7 << 21, 5 << 21), 2);
    }

    /** Asking changes nothing, and a CHILD that is gone has its half still. */
    static void p14_ofAChildThatIsGone(Check c) {
        ScrapHouse x = childWith(0, 0);
        x.move(0, 15, 0);
        c.due("dead", x.off(0, ALL, 0), 0);
        c.due("again", x.off(0, ALL, 0), 0);
    }
}

/** Promises 20 to 23: mothers' names, and who may ask for them. */
final class EdgesOfNames {
    private EdgesOfNames() { }

    /** Two CHILDREN, named 500 and 600; who 0 and 19 may ask about the first. */
    private static ScrapHouse named() {
        ScrapHouse x = Check.houseWith(2);
        x.name(0, 500);
        x.name(1, 600);
        x.allow(0, 0, true);
        x.allow(19, 0, true);
        return x;
    }

    /** "False: no such CHILD". */
    static void p20_noSuchChild(Check c) {
        c.due("none at first", new ScrapHouse().name(0, 1), false);
        ScrapHouse x = Check.houseWith(2);
        c.due("child 2", x.name(2, 1), false);
        c.due("child -1", x.name(-1, 1), false);
        for (int far : EdgesTest.FAR) {
            c.due("child " + far, x.name(far, 1), false);
        }
        c.due("the last child", x.name(1, 1), true);
    }

    /** "out of bounds": 1 .. 1,000,000. It was not told then, and may be. */
    static void p20_numberOutOfBounds(Check c) {
        ScrapHouse x = Check.houseWith(2);
        x.allow(0, 0, true);
        x.allow(0, 1, true);
        EdgesTest.refused(c, x, "number 0", () -> x.name(0, 0));
        EdgesTest.refused(c, x, "number -1", () -> x.name(0, -1));
        EdgesTest.refused(c, x, "number 1,000,001", () -> x.name(0, 1_000_001));
        for (int far : EdgesTest.FAR) {
            c.due("number " + far, x.name(0, far), false);
        }
        c.due("number 1", x.name(0, 1), true);
        c.due("number 1,000,000", x.name(1, 1_000_000), true);
        c.due("the one", x.ask(0, 0), 1);
        c.due("the other", x.ask(0, 1), 1_000_000);
    }

    /** "False: .. it was told": the first one stands. */
    static void p20_itWasTold(Check c) {
        ScrapHouse x = named();
        EdgesTest.refused(c, x, "another number", () -> x.name(0, 501));
        EdgesTest.refused(c, x, "the same number", () -> x.name(0, 500));
        c.due("the first one", x.ask(0, 0), 500);
    }

    /** Two CHILDREN of one mother: the number may be told of both. */
    static void p20_oneNumberOfTwo(Check c) {
        ScrapHouse x = Check.houseWith(2);
        c.due("of the first", x.name(0, 9), true);
        c.due("of the second", x.name(1, 9), true);
    }

    /** "False: no such ones": who is 0 .. 19. */
    static void p21_noSuchWho(Check c) {
        ScrapHouse x = Check.houseWith(1);
        int[] wrong = {-1, 20, 31, 32, 51, 64, Integer.MIN_VALUE, Integer.MAX_VALUE};
        for (int who : wrong) {
            c.due("allow(" + who + ", 0, true)", x.allow(who, 0, true), false);
            c.due("allow(" + who + ", 0, false)", x.allow(who, 0, false), false);
        }
        for (int who = 0; who <= 19; who++) {
            c.due("allow(" + who + ", 0, true)", x.allow(who, 0, true), true);
        }
    }

    /** "False: no such ones": no such CHILD. */
    static void p21_noSuchChild(Check c) {
        c.due("none at first", new ScrapHouse().allow(0, 0, true), false);
        ScrapHouse x = Check.houseWith(2);
        c.due("child 2", x.allow(0, 2, true), false);
        c.due("child -1", x.allow(0, -1, true), false);
        for (int far : EdgesTest.FAR) {
            c.due("child " + far, x.allow(0, far, true), false);
        }
        c.due("the last child", x.allow(0, 1, true), true);
    }

    /** "False: .. it is so": that they may. */
    static void p21_theyMayAlready(Check c) {
        ScrapHouse x = named();
        EdgesTest.refused(c, x, "again", () -> x.allow(19, 0, true));
        c.due("they may still", x.ask(19, 0), 500);
    }

    /** "False: .. it is so": that they may not, at first and later. */
    static void p21_theyMayNotAlready(Check c) {
        ScrapHouse x = named();
        EdgesTest.refused(c, x, "at first", () -> x.allow(5, 0, false));
        c.due("they may not", x.ask(5, 0), 0);
        c.due("no more", x.allow(19, 0, false), true);
        EdgesTest.refused(c, x, "no more, again", () -> x.allow(19, 0, false));
        c.due("they may not either", x.ask(19, 0), 0);
        c.due("and then again", x.allow(19, 0, true), true);
        c.due("they may", x.ask(19, 0), 500);
    }

    /** One who about one CHILD: not another who, not another CHILD. */
    static void p21_oneAboutOne(Check c) {
        for (int who = 0; who <= 19; who++) {
            ScrapHouse x = Check.houseWith(2);
            x.name(0, 500);
            x.name(1, 600);
            x.allow(who, 1, true);
            for (int other = 0; other <= 19; other++) {
                c.due("ask(" + other + ", 0)", x.ask(other, 0), 0);
                c.due("ask(" + other + ", 1)", x.ask(other, 1), other == who ? 600 : 0);
            }
        }
    }

    /** "NONE: no such ones": who is 0 .. 19. */
    static void p22_noSuchWho(Check c) {
        ScrapHouse x = named();
        int[] wrong = {-1, 20, 31, 32, 51, 64, Integer.MIN_VALUE, Integer.MAX_VALUE};
        for (int who : wrong) {
            c.due("ask(" + who + ", 0)", x.ask(who, 0), -1);
        }
        c.due("ask(0, 0)", x.ask(0, 0), 500);
        c.due("ask(19, 0)", x.ask(19, 0), 500);
    }

    /** "NONE: no such ones": no such CHILD. */
    static void p22_noSuchChild(Check c) {
        c.due("none at first", new ScrapHouse().ask(0, 0), -1);
        ScrapHouse x = named();
        c.due("child 2", x.ask(0, 2), -1);
        c.due("child -1", x.ask(0, -1), -1);
        for (int far : EdgesTest.FAR) {
            c.due("child " + far, x.ask(0, far), -1);
        }
    }

    /** "the number, if it is told and they may, else 0": all four cases. */
    static void p22_toldAndAllowed(Check c) {
        ScrapHouse x = Check.houseWith(1);
        c.due("not told, they may not", x.ask(0, 0), 0);
        x.allow(0, 0, true);
        c.due("not told, they may", x.ask(0, 0), 0);
        x.name(0, 1_000_000);
        c.due("told, they may", x.ask(0, 0), 1_000_000);
        x.allow(0, 0, false);
        c.due("told, they may not", x.ask(0, 0), 0);
    }

    /** "NONE: no such ones": who is 0 .. 19. */
    static void p23_noSuchWho(Check c) {
        ScrapHouse x = named();
        int[] wrong = {-1, 20, 31, 32, 51, 64, Integer.MIN_VALUE, Integer.MAX_VALUE};
        for (int who : wrong) {
            c.due("guess(" + who + ", 0, 500)", x.guess(who, 0, 500), -1);
        }
        c.due("guess(0, 0, 500)", x.guess(0, 0, 500), 1);
        c.due("guess(19, 0, 500)", x.guess(19, 0, 500), 1);
    }

    /** "NONE: no such ones": no such CHILD. */
    static void p23_noSuchChild(Check c) {
        c.due("none at first", new ScrapHouse().guess(0, 0, 1), -1);
        ScrapHouse x = named();
        c.due("child 2", x.guess(0, 2, 500), -1);
        c.due("child -1", x.guess(0, -1, 500), -1);
        for (int far : EdgesTest.FAR) {
            c.due("child " + far, x.guess(0, far, 500), -1);
        }
    }

    /** "number out of bounds": NONE, whether they may or not, and whether it is told or not. */
    static void p23_numberOutOfBounds(Check c) {
        ScrapHouse x = named();
        Check.leave(x, 0, 0, 0, 0);
        x.allow(0, 2, true);
        int[] wrong = {0, -1, 1_000_001, Integer.MIN_VALUE, Integer.MAX_VALUE};
        for (int number : wrong) {
            c.due("they may: " + number, x.guess(0, 0, number), -1);
            c.due("they may not: " + number, x.guess(5, 0, number), -1);
            c.due("not told: " + number, x.guess(0, 2, number), -1);
        }
    }

    /** The least number and the greatest one can be guessed. */
    static void p23_numbersAtTheirEnds(Check c) {
        ScrapHouse x = Check.houseWith(2);
        x.name(0, 1);
        x.name(1, 1_000_000);
        x.allow(3, 0, true);
        x.allow(3, 1, true);
        c.due("1", x.guess(3, 0, 1), 1);
        c.due("2", x.guess(3, 0, 2), 0);
        c.due("1,000,000", x.guess(3, 1, 1_000_000), 1);
        c.due("999,999", x.guess(3, 1, 999_999), 0);
        c.due("1, of the other", x.guess(3, 1, 1), 0);
    }

    /** "1, if they may and it is that number, else 0": who may not learns nothing by guessing. */
    static void p23_whoMayNotLearnsNothing(Check c) {
        ScrapHouse x = named();
        c.due("right, they may", x.guess(19, 0, 500), 1);
        c.due("wrong, they may", x.guess(19, 0, 499), 0);
        c.due("right, they may not", x.guess(5, 0, 500), 0);
        c.due("wrong, they may not", x.guess(5, 0, 499), 0);
        x.allow(19, 0, false);
        c.due("right, they may no more", x.guess(19, 0, 500), 0);
    }

    /** Not told: no guess is right. */
    static void p23_notTold(Check c) {
        ScrapHouse x = Check.houseWith(1);
        x.allow(0, 0, true);
        c.due("1", x.guess(0, 0, 1), 0);
        c.due("1,000,000", x.guess(0, 0, 1_000_000), 0);
        c.due("a guess does not tell it", x.ask(0, 0), 0);
        c.due("it may be told", x.name(0, 1), true);
    }
}

/** Promise 14: off. */
public final class HalfTest {
    public static void main(String[] args) {
        Check c = new Check("HalfTest");
        bounds(c);
        places(c);
        turned(c);
        c.end();
    }

    private static int half(int... places) {
        int numbers = 0;
        for (int k = 0; k < 8; k++) {
            numbers |= places[k] << 3 * k;
        }
        return numbers;
    }

    private static void bounds(Check c) {
        ScrapHouse x = Check.houseWith(1);
        c.due("no child 1", x.off(1, 0, 0), -1);
        c.due("no child -1", x.off(-1, 0, 0), -1);
        c.due("edge -1", x.off(0, -1, 0), -1);
        c.due("edge above", x.off(0, Check.ALL + 1, 0), -1);
        c.due("threads -1", x.off(0, 0, -1), -1);
        c.due("threads above", x.off(0, 0, Check.ALL + 1), -1);
        c.due("far ones", x.off(0, Integer.MIN_VALUE, Integer.MAX_VALUE), -1);
        c.due("it meets", x.off(0, Check.ALL, 0), 0);
        c.due("edges unlike", x.off(0, 0, 0), 8);
        c.due("threads unlike", x.off(0, Check.ALL, Check.ALL), 8);
        c.due("both unlike count once", x.off(0, 0, Check.ALL), 8);
    }

    private static void places(Check c) {
        ScrapHouse x = new ScrapHouse();
        Check.leave(x, 0, 0, half(0, 1, 2, 3, 4, 5, 6, 7), half(1, 1, 2, 2, 3, 3, 4, 4));
        int edge = half(7, 6, 5, 4, 3, 2, 1, 0);
        int threads = half(1, 1, 2, 2, 3, 3, 4, 4);
        c.due("its own", x.off(0, edge, threads), 0);
        for (int k = 0; k < 8; k++) {
            c.due("edge at " + k, x.off(0, edge ^ 1 << 3 * k, threads), 1);
            c.due("edge's highest bit at " + k, x.off(0, edge ^ 4 << 3 * k, threads), 1);
            c.due("threads at " + k, x.off(0, edge, threads ^ 2 << 3 * k), 1);
            c.due("both at " + k, x.off(0, edge ^ 1 << 3 * k, threads ^ 1 << 3 * k), 1);
        }
        c.due("edge at 0, threads at 1", x.off(0, edge ^ 1, threads ^ 8), 2);
        c.due("edge at 0, 3, threads at 5", x.off(0, edge ^ 1 ^ 1 << 9, threads ^ 7 << 15), 3);
    }

    private static void turned(Check c) {
        ScrapHouse x = new ScrapHouse();
        Check.leave(x, 0, 0, half(0, 1, 2, 3, 4, 5, 6, 7), half(1, 1, 2, 2, 3, 3, 4, 4));
        int edge = half(0, 1, 2, 3, 4, 5, 6, 7);
        int threads = half(4, 4, 3, 3, 2, 2, 1, 1);
        c.due("the other way round", x.off(0, edge, threads), 0);
        c.due("and one off", x.off(0, edge ^ 1, threads), 1);
        c.due("and two off", x.off(0, edge ^ 1, threads ^ 8), 2);
        c.due("edge alone round", x.off(0, edge, half(1, 1, 2, 2, 3, 3, 4, 4)), 8);
        // Each of the two meets at three places one way and at none the other way.
        ScrapHouse y = new ScrapHouse();
        Check.leave(y, 0, 0, half(0, 0, 1, 1, 1, 2, 2, 2), 0);
        c.due("the lesser, turned", y.off(0, half(5, 5, 5, 3, 3, 3, 3, 0), 0), 5);
        c.due("the lesser, as it is", y.off(0, half(7, 7, 6, 3, 3, 3, 3, 3), 0), 5);
    }
}

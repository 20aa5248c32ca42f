/** Promises 20 to 23: name, allow, ask, guess. */
public final class NameTest {
    public static void main(String[] args) {
        Check c = new Check("NameTest");
        name(c);
        allow(c);
        everyone(c);
        noSuch(c);
        c.end();
    }

    private static void name(Check c) {
        ScrapHouse x = Check.houseWith(2);
        c.due("number 0", x.name(0, 0), false);
        c.due("number -1", x.name(0, -1), false);
        c.due("number above", x.name(0, 1_000_001), false);
        c.due("number far above", x.name(0, Integer.MAX_VALUE), false);
        c.due("no child 2", x.name(2, 1), false);
        c.due("no child -1", x.name(-1, 1), false);
        c.due("the most", x.name(0, 1_000_000), true);
        c.due("the least", x.name(1, 1), true);
        c.due("it was told", x.name(0, 5), false);
        c.due("the same was told", x.name(0, 1_000_000), false);
        x.allow(0, 0, true);
        x.allow(0, 1, true);
        c.due("the first one stands", x.ask(0, 0), 1_000_000);
        c.due("the other too", x.ask(0, 1), 1);
    }

    private static void allow(Check c) {
        ScrapHouse x = Check.houseWith(1);
        c.due("nobody may at first", x.allow(4, 0, false), false);
        c.due("they may", x.allow(4, 0, true), true);
        c.due("it is so", x.allow(4, 0, true), false);
        c.due("not told: ask", x.ask(4, 0), 0);
        c.due("not told: guess", x.guess(4, 0, 1), 0);
        x.name(0, 77);
        c.due("told: ask", x.ask(4, 0), 77);
        c.due("told: guess", x.guess(4, 0, 77), 1);
        c.due("told: guess wrongly", x.guess(4, 0, 76), 0);
        c.due("told: guess wrongly again", x.guess(4, 0, 1_000_000), 0);
        c.due("they may no more", x.allow(4, 0, false), true);
        c.due("it is so, too", x.allow(4, 0, false), false);
        c.due("ask no more", x.ask(4, 0), 0);
        c.due("guess no more", x.guess(4, 0, 77), 0);
        c.due("they may again", x.allow(4, 0, true), true);
        c.due("ask again", x.ask(4, 0), 77);
    }

    private static void everyone(Check c) {
        for (int who = 0; who <= 19; who++) {
            ScrapHouse x = Check.houseWith(2);
            x.name(0, 500);
            x.name(1, 600);
            c.due("ask ahead of it", x.ask(who, 0), 0);
            c.due("allow " + who, x.allow(who, 0, true), true);
            for (int other = 0; other <= 19; other++) {
                c.due("ask of " + other, x.ask(other, 0), other == who ? 500 : 0);
                c.due("guess of " + other, x.guess(other, 0, 500), other == who ? 1 : 0);
                c.due("of another child", x.ask(other, 1), 0);
                c.due("guess of another child", x.guess(other, 1, 600), 0);
            }
            c.due("allow no more", x.allow(who, 0, false), true);
        }
    }

    private static void noSuch(Check c) {
        ScrapHouse x = Check.houseWith(1);
        x.name(0, 3);
        x.allow(19, 0, true);
        int[][] wrong = {{20, 0}, {-1, 0}, {0, 1}, {0, -1}, {32, 0}, {51, 0}, {Integer.MIN_VALUE, Integer.MAX_VALUE}};
        for (int[] w : wrong) {
            String with = "(" + w[0] + ", " + w[1] + ")";
            c.due("allow" + with, x.allow(w[0], w[1], true), false);
            c.due("allow not" + with, x.allow(w[0], w[1], false), false);
            c.due("ask" + with, x.ask(w[0], w[1]), -1);
            c.due("guess" + with, x.guess(w[0], w[1], 3), -1);
        }
        c.due("guess 0", x.guess(19, 0, 0), -1);
        c.due("guess -1", x.guess(19, 0, -1), -1);
        c.due("guess above", x.guess(19, 0, 1_000_001), -1);
        c.due("guess 0 of who may not", x.guess(18, 0, 0), -1);
        c.due("guess 3", x.guess(19, 0, 3), 1);
    }
}

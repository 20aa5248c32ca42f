/** Promise 19: claim. */
public final class ClaimTest {
    public static void main(String[] args) {
        Check c = new Check("ClaimTest");
        bounds(c);
        letters(c);
        compares(c);
        joins(c);
        gone(c);
        several(c);
        c.end();
    }

    private static void bounds(Check c) {
        ScrapHouse x = Check.houseWith(1);
        int[][] wrong = {{-1, 0, 0, 0, 0, 0}, {Check.ALL + 1, 0, 0, 0, 0, 0}, {0, -1, 0, 0, 0, 0},
            {0, Check.ALL + 1, 0, 0, 0, 0}, {0, 0, -1, 0, 0, 0}, {0, 0, 2001, 2001, 0, 0}, {0, 0, 0, 2001, 0, 0},
            {0, 0, 0, -1, 0, 0}, {0, 0, 6, 5, 0, 0}, {0, 0, 0, 0, -2, 0}, {0, 0, 0, 0, 2, 0}, {0, 0, 0, 0, 0, -2},
            {0, 0, 0, 0, 0, 10}, {0, 0, Integer.MIN_VALUE, Integer.MAX_VALUE, 0, 0}};
        for (int round = 0; round < 2; round++) {
            for (int[] w : wrong) {
                String with = "claim(" + w[0] + ", " + w[1] + ", " + w[2] + ", " + w[3] + ", " + w[4] + ", " + w[5] + ")";
                c.due(with, x.claim(w[0], w[1], w[2], w[3], w[4], w[5]), -3);
            }
            c.due("at the least", x.claim(0, 0, 0, 0, -1, -1), round == 0 ? -1 : 0);
            c.due("at the most", x.claim(Check.ALL, Check.ALL, 2000, 2000, 1, 9), round == 0 ? -1 : 0);
            c.due("a rule that holds", Check.setRule(x, "o<9"), true);
        }
    }

    /** Which of the letters' values 0 .. 9 makes the claim hold of the one child that is there. */
    private static void value(Check c, ScrapHouse x, String letter, int want, int[] claim) {
        for (int value = 0; value <= 9; value++) {
            Check.setRule(x, letter + "=" + value);
            int answer = x.claim(claim[0], claim[1], claim[2], claim[3], claim[4], claim[5]);
            c.due(letter + "=" + value, answer, value == want ? 0 : -1);
        }
    }

    private static void letters(Check c) {
        int[][] claims = {{Check.ALL, 0, 0, 9, 1, 4}, {Check.ALL, 1, 0, 9, 1, 5}, {0, 0, 5, 9, 0, 5},
            {Check.ALL - 7, 8, 6, 9, -1, -1}, {Check.ALL, 0, 0, 4, -1, -1}, {Check.ALL, 0, 5, 5, 1, -1},
            {Check.ALL, 0, 5, 5, -1, 4}, {Check.ALL, 0, 6, 6, -1, 3}};
        int[] off = {0, 1, 8, 2, 0, 0, 0, 0};
        int[] agree = {3, 2, 1, 0, 0, 2, 2, 0};
        int[] disagree = {0, 1, 2, 1, 1, 0, 0, 2};
        for (int k = 0; k < claims.length; k++) {
            letterValues(c, claims[k], off[k], agree[k], disagree[k]);
        }
        ScrapHouse x = new ScrapHouse();
        Check.leave(x, 0, 0, 0, 0);
        x.days(3);
        x.days(1000);
        x.days(997);
        Check.setRule(x, "d=2000");
        c.due("2,000 days", x.claim(0, 0, 0, 0, -1, -1), 0);
        Check.setRule(x, "d>1999&d<2001&d<9999");
        c.due("2,000 days again", x.claim(0, 0, 0, 0, -1, -1), 0);
    }

    private static void letterValues(Check c, int[] claim, int off, int agree, int disagree) {
        ScrapHouse x = new ScrapHouse();
        x.days(5);
        Check.leave(x, 1, 4, 0, 0);
        x.days(3);
        value(c, x, "o", off, claim);
        value(c, x, "f", agree, claim);
        value(c, x, "w", disagree, claim);
        value(c, x, "c", disagree == 0 ? 1 : 0, claim);
        value(c, x, "d", 3, claim);
    }

    private static void holds(Check c, ScrapHouse x, String rule, boolean want) {
        c.due("rule " + rule, Check.setRule(x, rule), true);
        c.due("claim by " + rule, x.claim(0, 0, 0, 0, 0, -1), want ? 0 : -1);
    }

    private static void compares(Check c) {
        // o 8, f 2, w 0, c 1, d 0
        ScrapHouse x = Check.houseWith(1);
        holds(c, x, "o<8", false);
        holds(c, x, "o<9", true);
        holds(c, x, "o>8", false);
        holds(c, x, "o>7", true);
        holds(c, x, "o=8", true);
        holds(c, x, "o=0008", true);
        holds(c, x, "o=08", true);
        holds(c, x, "o=80", false);
        holds(c, x, "o<9999", true);
        holds(c, x, "o>1000", false);
        holds(c, x, " o = 8 ", true);
    }

    private static void joins(Check c) {
        ScrapHouse x = Check.houseWith(1);
        holds(c, x, "o=8|o=1", true);
        holds(c, x, "o=1|o=8", true);
        holds(c, x, "o=1|o=2", false);
        holds(c, x, "o=8&f=2", true);
        holds(c, x, "o=8&f=1", false);
        holds(c, x, "o=1&f=2", false);
        holds(c, x, "o=8|f=1&w=1", true);
        holds(c, x, "(o=8|f=1)&w=1", false);
        holds(c, x, "w=1&f=1|o=8", true);
        holds(c, x, "w=1&(f=1|o=8)", false);
        holds(c, x, "o=1|f=2|w=1", true);
        holds(c, x, "o=8&f=2&w=1", false);
        holds(c, x, "o=8&f=2&w=0&c=1&d=0", true);
        holds(c, x, "((((((((o=1|f=2))))))))&w=0", true);
        holds(c, x, "(o=1&(f=2|w=0))|(c=1&(d=0|o=1))", true);
    }

    private static void gone(Check c) {
        ScrapHouse x = Check.houseWith(4);
        Check.setRule(x, "c=4");
        c.due("four", x.claim(0, 0, 0, 0, -1, -1), -2);
        x.days(5);
        x.move(0, 14, 5);
        x.move(1, 15, 2);
        x.move(2, 13, 1);
        c.due("not four", x.claim(0, 0, 0, 0, -1, -1), -1);
        Check.setRule(x, "c=2");
        c.due("two", x.claim(0, 0, 0, 0, -1, -1), -2);
        Check.setRule(x, "o<9");
        x.move(2, 14, 5);
        c.due("one alone", x.claim(0, 0, 0, 0, -1, -1), 3);
        x.move(3, 1, 5);
        c.due("with a nurse it may be claimed", x.claim(0, 0, 0, 0, -1, -1), 3);
        x.move(3, 15, 5);
        c.due("none", x.claim(0, 0, 0, 0, -1, -1), -1);
        ScrapHouse y = Check.houseWith(1);
        y.days(5);
        y.move(0, 0, 4);
        y.move(0, 14, 2);
        Check.setRule(y, "d=5");
        c.due("claimed then, but not NOW", y.claim(0, 0, 0, 0, -1, -1), 0);
    }

    private static void several(Check c) {
        ScrapHouse x = new ScrapHouse();
        Check.leave(x, 0, 1, 0, 0);
        x.days(2);
        Check.leave(x, 1, 1, 0, 0);
        Check.leave(x, 1, 2, 0, 511);
        Check.setRule(x, "w=0");
        c.due("by sex 0", x.claim(0, 0, 0, 9, 0, -1), 0);
        c.due("by sex 1", x.claim(0, 0, 0, 9, 1, -1), -2);
        c.due("by mark 2", x.claim(0, 0, 0, 9, -1, 2), 2);
        c.due("by mark 3", x.claim(0, 0, 0, 9, -1, 3), -1);
        c.due("by all three", x.claim(0, 0, 2, 2, 1, 1), 1);
        c.due("by nothing but days", x.claim(0, 0, 0, 1, -1, -1), 0);
        c.due("of all", x.claim(0, 0, 0, 2000, -1, -1), -2);
        Check.setRule(x, "o=0");
        c.due("by the half", x.claim(Check.ALL, 511, 0, 0, -1, -1), 2);
        Check.setRule(x, "c=1&o=3");
        c.due("c is told of all, o of each", x.claim(Check.ALL, 0, 0, 0, -1, -1), 2);
        Check.setRule(x, "f>1");
        c.due("a claim changes nothing", x.claim(0, 0, 2, 2, -1, 2), 2);
        c.due("so again", x.claim(0, 0, 2, 2, -1, 2), 2);
        c.due("it is in the house", x.place(2, 2, 2), 0);
    }
}

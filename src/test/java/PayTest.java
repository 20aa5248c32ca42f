/** Promises 10, 12 and 13: look, pay, gap. */
public final class PayTest {
    public static void main(String[] args) {
        Check c = new Check("PayTest");
        look(c);
        bounds(c);
        weeks(c);
        known(c);
        lastWeek(c);
        c.end();
    }

    private static void look(Check c) {
        ScrapHouse x = new ScrapHouse();
        c.due("no nurse 0", x.look(0), false);
        c.due("no nurse 13", x.look(13), false);
        c.due("no nurse -1", x.look(-1), false);
        c.due("no nurse far off", x.look(Integer.MAX_VALUE), false);
        c.due("no look", x.count(4), 0);
        for (int nurse = 1; nurse <= 12; nurse++) {
            c.due("look(" + nurse + ")", x.look(nurse), true);
            c.due("look(" + nurse + ") again", x.look(nurse), false);
        }
        c.due("12 looks", x.count(4), 12);
        x.days(1);
        c.due("the next day", x.look(5), true);
        c.due("13 looks", x.count(4), 13);
    }

    private static void bounds(Check c) {
        ScrapHouse x = Check.houseWith(1);
        x.days(3);
        x.move(0, 2, 0);
        int[][] wrong = {{0, 0, 0, 0}, {13, 0, 0, 0}, {-1, 0, 0, 0}, {2, -1, 0, 0}, {2, 0, -1, 0}, {2, 0, 301, 0},
            {2, 301, 301, 0}, {2, 1, 0, 0}, {2, 0, 0, -1}, {2, 0, 0, 4},
            {Integer.MIN_VALUE, Integer.MAX_VALUE, Integer.MIN_VALUE, Integer.MAX_VALUE},
            {2, Integer.MIN_VALUE, Integer.MAX_VALUE, 0}};
        for (int[] w : wrong) {
            String with = "(" + w[0] + ", " + w[1] + ", " + w[2] + ", " + w[3] + ")";
            c.due("pay" + with, x.pay(w[0], w[1], w[2], w[3]), -1);
            c.due("gap" + with, x.gap(w[0], w[1], w[2], w[3]), -1);
        }
        c.due("pay, not seen", x.pay(2, 0, 300, 3), 0);
        c.due("gap, not seen", x.gap(2, 0, 300, 3), 4);
        c.due("gap of weeks to come", x.gap(2, 1, 300, 3), 0);
        c.due("gap of the last week", x.gap(2, 300, 300, 3), 0);
        c.due("gap of another", x.gap(1, 0, 300, 3), 0);
        x.look(2);
        c.due("pay, seen", x.pay(2, 0, 300, 3), 8);
        c.due("gap, seen", x.gap(2, 0, 300, 3), 0);
        c.due("pay of weeks to come", x.pay(2, 1, 300, 3), 0);
        c.due("pay of another", x.pay(1, 0, 300, 3), 0);
    }

    private static void weeks(Check c) {
        ScrapHouse x = Check.houseWith(2);
        x.days(6);
        x.look(9);
        x.days(8);
        x.look(9);
        x.look(8);
        x.days(1);
        x.look(9);
        x.days(5);
        x.move(0, 9, 5);
        x.move(1, 9, 12);
        x.move(0, 13, 16);
        c.due("week 0", x.pay(9, 0, 0, 20), 2 * 2);
        c.due("week 1", x.pay(9, 1, 1, 20), 0);
        c.due("week 2, looked at twice", x.pay(9, 2, 2, 20), 2 * (2 + 7));
        c.due("weeks 0 to 2", x.pay(9, 0, 2, 20), 2 * 11);
        c.due("weeks 1 to 2", x.pay(9, 1, 2, 20), 2 * 9);
        c.due("gap of week 0", x.gap(9, 0, 0, 20), 0);
        c.due("gap of week 1", x.gap(9, 1, 1, 20), 7 + 2);
        c.due("gap of all", x.gap(9, 0, 300, 20), 9);
        c.due("a nurse with none", x.pay(8, 0, 2, 20), 0);
    }

    private static void known(Check c) {
        ScrapHouse x = Check.houseWith(1);
        x.move(0, 3, 0);
        x.days(4);
        x.look(3);
        x.days(2);
        x.move(0, 0, 2);
        x.days(1);
        c.due("pay in 3, the look not known", x.pay(3, 0, 0, 3), 0);
        c.due("gap in 3", x.gap(3, 0, 0, 3), 4);
        c.due("pay in 4", x.pay(3, 0, 0, 4), 10);
        c.due("pay in 5", x.pay(3, 0, 0, 5), 12);
        c.due("pay in 6, the move known", x.pay(3, 0, 0, 6), 4);
        c.due("gap in 6", x.gap(3, 0, 0, 6), 0);
        c.due("gap in 0", x.gap(3, 0, 0, 0), 1);
        ScrapHouse y = new ScrapHouse();
        y.days(10);
        Check.leave(y, 0, 0, 0, 0);
        y.move(0, 3, 10);
        y.look(3);
        y.days(10);
        c.due("its coming not known", y.gap(3, 0, 9, 9), 0);
        c.due("pay from its coming on", y.pay(3, 0, 9, 20), 8);
        c.due("gap from then on", y.gap(3, 0, 9, 20), 7);
        y.look(3);
        c.due("a later look adds", y.pay(3, 0, 9, 20), 22);
        c.due("in 19 it is not known", y.pay(3, 0, 9, 19), 8);
    }

    private static void lastWeek(Check c) {
        ScrapHouse x = Check.houseWith(3);
        x.beds(1, 3);
        for (int child = 0; child < 3; child++) {
            x.move(child, 1, 0);
        }
        x.days(1000);
        x.days(1000);
        c.due("gap of all days", x.gap(1, 0, 300, 2000), 3 * 2001);
        x.look(1);
        c.due("pay of the last six days", x.pay(1, 285, 285, 2000), 2 * 3 * 6);
        c.due("pay of all weeks", x.pay(1, 0, 300, 2000), 2 * 3 * 6);
        c.due("gap of the others", x.gap(1, 0, 300, 2000), 3 * 1995);
    }
}

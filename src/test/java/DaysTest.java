/** Promises 1 and 2: a new object; days. */
public final class DaysTest {
    public static void main(String[] args) {
        Check c = new Check("DaysTest");
        newObject(c);
        days(c);
        c.end();
    }

    private static void newObject(Check c) {
        ScrapHouse x = new ScrapHouse();
        for (int what = 0; what <= 7; what++) {
            c.due("new: count(" + what + ")", x.count(what), 0);
        }
        c.due("new: no child", x.told(0, 0), -1);
        c.due("new: no ballot", x.ball(0, 0), -1);
        c.due("new: empty tape", x.fault(), 0);
        c.due("new: no rule", x.claim(0, 0, 0, 0, -1, -1), -1);
        for (int place = 0; place <= 15; place++) {
            c.due("new: many(" + place + ")", x.many(place, 0, 0), 0);
        }
        for (int nurse = 1; nurse <= 12; nurse++) {
            ScrapHouse y = Check.houseWith(3);
            c.due("first bed of " + nurse, y.move(0, nurse, 0), true);
            c.due("second bed of " + nurse, y.move(1, nurse, 0), true);
            c.due("third bed of " + nurse, y.move(2, nurse, 0), false);
        }
        ScrapHouse a = new ScrapHouse();
        ScrapHouse b = new ScrapHouse();
        a.days(5);
        Check.leave(a, 0, 0, 0, 0);
        c.due("objects share no days", b.count(0), 0);
        c.due("objects share no children", b.count(1), 0);
    }

    private static void days(Check c) {
        ScrapHouse x = new ScrapHouse();
        c.due("days(0)", x.days(0), 0);
        c.due("days(-1)", x.days(-1), -1);
        c.due("days(1001)", x.days(1001), -1);
        c.due("days(least)", x.days(Integer.MIN_VALUE), -1);
        c.due("days(greatest)", x.days(Integer.MAX_VALUE), -1);
        c.due("refused days don't go by", x.count(0), 0);
        c.due("days(1)", x.days(1), 1);
        c.due("days(1000)", x.days(1000), 1001);
        c.due("days(1000) beyond", x.days(1000), -1);
        c.due("NOW after", x.count(0), 1001);
        c.due("days(999)", x.days(999), 2000);
        c.due("days(1) beyond", x.days(1), -1);
        c.due("days(0) at the end", x.days(0), 2000);
    }
}

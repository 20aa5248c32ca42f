/** Promise 25: count. */
public final class CountTest {
    public static void main(String[] args) {
        Check c = new Check("CountTest");
        ScrapHouse x = Check.houseWith(3);
        x.ballot(2, 1, 1, 5L);
        x.days(12);
        x.move(0, 1, 3);
        x.move(1, 2, 12);
        x.move(2, 14, 4);
        x.move(2, 0, 12);
        x.move(2, 0, 2);
        x.look(1);
        x.look(1);
        x.look(2);
        Check.setRule(x, "o=1");
        Check.setRule(x, "o=2");
        Check.setRule(x, "o=");
        int[] due = {12, 3, 2, 4, 2, 2, 2, 0};
        for (int what = 0; what < due.length; what++) {
            c.due("count(" + what + ")", x.count(what), due[what]);
        }
        x.move(0, 0, 12);
        c.due("one is back", x.count(7), 1);
        x.days(1);
        c.due("the next day", x.count(7), 1);
        c.due("count(8)", x.count(8), -1);
        c.due("count(-1)", x.count(-1), -1);
        c.due("count(least)", x.count(Integer.MIN_VALUE), -1);
        c.end();
    }
}

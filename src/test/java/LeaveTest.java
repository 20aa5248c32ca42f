/** Promises 6 and 24: leave, told. */
public final class LeaveTest {
    public static void main(String[] args) {
        Check c = new Check("LeaveTest");
        bounds(c);
        told(c);
        most(c);
        c.end();
    }

    private static void bounds(Check c) {
        ScrapHouse x = new ScrapHouse();
        x.ballot(2, 2, 0, 1L);
        c.due("no ballot 1", x.leave(1, 0, 0, 0, 0, 0), -1);
        c.due("no ballot -1", x.leave(-1, 0, 0, 0, 0, 0), -1);
        c.due("no woman 2", x.leave(0, 2, 0, 0, 0, 0), -1);
        c.due("no woman -1", x.leave(0, -1, 0, 0, 0, 0), -1);
        c.due("sex -1", x.leave(0, 0, -1, 0, 0, 0), -1);
        c.due("sex 2", x.leave(0, 0, 2, 0, 0, 0), -1);
        c.due("mark -1", x.leave(0, 0, 0, -1, 0, 0), -1);
        c.due("mark 10", x.leave(0, 0, 0, 10, 0, 0), -1);
        c.due("edge -1", x.leave(0, 0, 0, 0, -1, 0), -1);
        c.due("edge above", x.leave(0, 0, 0, 0, Check.ALL + 1, 0), -1);
        c.due("threads -1", x.leave(0, 0, 0, 0, 0, -1), -1);
        c.due("threads above", x.leave(0, 0, 0, 0, 0, Check.ALL + 1), -1);
        c.due("no child yet", x.count(1), 0);
        c.due("she has white still", x.ball(0, 0), 0);
        c.due("at the least", x.leave(0, 1, 0, 0, 0, 0), 0);
        c.due("at the most", x.leave(0, 0, 1, 9, Check.ALL, Check.ALL), 1);
        c.due("she left one", x.ball(0, 0), 4);
        c.due("and so did the last one", x.ball(0, 1), 4);
        c.due("she has not white", x.leave(0, 0, 0, 0, 0, 0), -1);
    }

    private static void told(Check c) {
        ScrapHouse x = new ScrapHouse();
        x.ballot(1, 0, 1, 1L);
        x.ballot(3, 3, 0, 1L);
        x.days(17);
        c.due("leave", x.leave(1, 2, 1, 9, 1234567, 7654321), 0);
        x.days(3);
        int[] due = {17, 1, 9, 1234567, 7654321, 1, 2, 0};
        for (int what = 0; what < due.length; what++) {
            c.due("told(0, " + what + ")", x.told(0, what), due[what]);
        }
        c.due("told(0, 8)", x.told(0, 8), -1);
        c.due("told(0, -1)", x.told(0, -1), -1);
        c.due("told(1, 0)", x.told(1, 0), -1);
        c.due("told(-1, 0)", x.told(-1, 0), -1);
        c.due("told(greatest, 0)", x.told(Integer.MAX_VALUE, 0), -1);
        x.leave(1, 0, 0, 3, 5, 6);
        x.move(0, 13, 20);
        x.move(0, 0, 18);
        x.move(0, 99, 18);
        c.due("moves of it", x.told(0, 7), 2);
        c.due("not of another", x.told(1, 7), 0);
        c.due("the other's day", x.told(1, 0), 20);
        c.due("the other's woman", x.told(1, 6), 0);
    }

    private static void most(Check c) {
        ScrapHouse x = Check.houseWith(60);
        c.due("60 children", x.count(1), 60);
        c.due("a ballot more", x.ballot(1, 1, 0, 1L), 3);
        c.due("a 61st child", x.leave(3, 0, 0, 0, 0, 0), -1);
        c.due("she has white still", x.ball(3, 0), 0);
        c.due("60 children still", x.count(1), 60);
        c.due("the last one's woman", x.told(59, 6), 19);
        c.due("no 61st", x.told(60, 0), -1);
        c.due("all in the house", x.count(7), 60);
    }
}

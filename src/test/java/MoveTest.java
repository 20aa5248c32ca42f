/** Promises 7, 8, 9 and 11: beds, move, place, many. */
public final class MoveTest {
    public static void main(String[] args) {
        Check c = new Check("MoveTest");
        place(c);
        known(c);
        sameDay(c);
        moveBounds(c);
        gone(c);
        fullBeds(c);
        laterStay(c);
        beds(c);
        many(c);
        most(c);
        c.end();
    }

    private static void place(Check c) {
        ScrapHouse x = new ScrapHouse();
        x.days(5);
        Check.leave(x, 0, 0, 0, 0);
        x.days(5);
        c.due("ahead of its coming", x.place(0, 4, 10), -1);
        c.due("its coming not known", x.place(0, 5, 4), -1);
        c.due("neither", x.place(0, 4, 4), -1);
        c.due("on the day", x.place(0, 5, 5), 0);
        c.due("a day behind what is known", x.place(0, 10, 5), 0);
        c.due("a day -1", x.place(0, -1, 10), -1);
        c.due("a day 11", x.place(0, 11, 10), -1);
        c.due("q -1", x.place(0, 5, -1), -1);
        c.due("q 11", x.place(0, 5, 11), -1);
        c.due("no child 1", x.place(1, 5, 5), -1);
        c.due("no child -1", x.place(-1, 5, 5), -1);
        c.due("far ones", x.place(Integer.MIN_VALUE, Integer.MAX_VALUE, Integer.MIN_VALUE), -1);
        for (int place = 0; place <= 13; place++) {
            c.due("move to " + place, x.move(0, place, 7), true);
            c.due("at " + place, x.place(0, 7, 10), place);
        }
        c.due("a day ahead of all", x.place(0, 6, 10), 0);
    }

    private static void known(Check c) {
        ScrapHouse x = Check.houseWith(1);
        x.days(10);
        c.due("told on 10 from 8", x.move(0, 1, 8), true);
        x.days(10);
        c.due("told on 20 from 3", x.move(0, 2, 3), true);
        x.days(1);
        c.due("told on 21 from 15", x.move(0, 13, 15), true);
        c.due("day 9 in 9", x.place(0, 9, 9), 0);
        c.due("day 9 in 10", x.place(0, 9, 10), 1);
        c.due("day 9 in 20", x.place(0, 9, 20), 1);
        c.due("day 5 in 19", x.place(0, 5, 19), 0);
        c.due("day 5 in 20", x.place(0, 5, 20), 2);
        c.due("day 2 in 21", x.place(0, 2, 21), 0);
        c.due("day 3 in 21", x.place(0, 3, 21), 2);
        c.due("day 7 in 21", x.place(0, 7, 21), 2);
        c.due("day 8 in 21", x.place(0, 8, 21), 1);
        c.due("day 14 in 21", x.place(0, 14, 21), 1);
        c.due("day 15 in 20", x.place(0, 15, 20), 1);
        c.due("day 15 in 21", x.place(0, 15, 21), 13);
        c.due("day 21 in 10", x.place(0, 21, 10), 1);
    }

    private static void sameDay(Check c) {
        ScrapHouse x = Check.houseWith(1);
        x.days(4);
        x.move(0, 5, 2);
        x.days(1);
        x.move(0, 6, 2);
        x.move(0, 7, 2);
        x.days(1);
        x.move(0, 0, 2);
        c.due("in 4", x.place(0, 2, 4), 5);
        c.due("in 5 the one told last", x.place(0, 2, 5), 7);
        c.due("in 6", x.place(0, 2, 6), 0);
        c.due("from its coming on", x.move(0, 9, 0), true);
        c.due("day 0", x.place(0, 0, 6), 9);
        c.due("day 1", x.place(0, 1, 6), 9);
        c.due("day 2", x.place(0, 2, 6), 0);
    }

    private static void moveBounds(Check c) {
        ScrapHouse x = new ScrapHouse();
        x.days(5);
        Check.leave(x, 0, 0, 0, 0);
        x.days(5);
        c.due("no child 1", x.move(1, 0, 7), false);
        c.due("no child -1", x.move(-1, 0, 7), false);
        c.due("place -1", x.move(0, -1, 7), false);
        c.due("place 16", x.move(0, 16, 7), false);
        c.due("ahead of its coming", x.move(0, 0, 4), false);
        c.due("behind NOW", x.move(0, 0, 11), false);
        c.due("far ones", x.move(0, Integer.MAX_VALUE, Integer.MIN_VALUE), false);
        c.due("no move told", x.count(3), 0);
        c.due("on its coming", x.move(0, 0, 5), true);
        c.due("NOW", x.move(0, 0, 10), true);
        c.due("moves told", x.count(3), 2);
    }

    private static void gone(Check c) {
        for (int end = 14; end <= 15; end++) {
            ScrapHouse x = Check.houseWith(1);
            x.days(10);
            c.due("gone from 6", x.move(0, end, 6), true);
            for (int place = 0; place <= 15; place++) {
                c.due("from 6 to " + place, x.move(0, place, 6), false);
                c.due("from 10 to " + place, x.move(0, place, 10), false);
            }
            c.due("one move told", x.told(0, 7), 1);
            c.due("gone from 4 too", x.move(0, 29 - end, 4), true);
            c.due("from 5", x.move(0, 0, 5), false);
            c.due("from 3", x.move(0, 1, 3), true);
            c.due("day 3", x.place(0, 3, 10), 1);
            c.due("day 4", x.place(0, 4, 10), 29 - end);
            c.due("day 6", x.place(0, 6, 10), end);
        }
        ScrapHouse y = Check.houseWith(1);
        y.days(9);
        y.move(0, 0, 8);
        y.move(0, 14, 5);
        c.due("claimed, as known NOW, on 7", y.move(0, 3, 7), false);
        c.due("back from 8 on", y.move(0, 3, 8), true);
        c.due("bound out is not gone", y.move(0, 13, 9), true);
        c.due("and moves on", y.move(0, 0, 9), true);
    }

    private static void fullBeds(Check c) {
        ScrapHouse x = Check.houseWith(4);
        x.days(20);
        c.due("one", x.move(0, 12, 5), true);
        c.due("two", x.move(1, 12, 10), true);
        c.due("a third", x.move(2, 12, 15), false);
        c.due("a third, too long", x.move(2, 12, 0), false);
        c.due("its place is as it was", x.place(2, 20, 20), 0);
        c.due("no move was told of it", x.told(2, 7), 0);
        c.due("two moves told", x.count(3), 2);
        c.due("one of them goes", x.move(1, 13, 16), true);
        c.due("a third on the day", x.move(2, 12, 15), false);
        c.due("a third then", x.move(2, 12, 16), true);
        c.due("told again of one who is there", x.move(0, 12, 18), true);
        c.due("at all times with her", x.place(0, 20, 20), 12);
        c.due("a fourth", x.move(3, 12, 20), false);
    }

    private static void laterStay(Check c) {
        ScrapHouse x = Check.houseWith(3);
        x.days(20);
        x.move(0, 4, 10);
        x.move(1, 4, 10);
        c.due("she is full later", x.move(2, 4, 3), false);
        c.due("elsewhere from 10 on", x.move(2, 0, 10), true);
        c.due("so up to then", x.move(2, 4, 3), true);
        c.due("day 9", x.place(2, 9, 20), 4);
        c.due("day 10", x.place(2, 10, 20), 0);
        c.due("beds 1", x.beds(4, 1), false);
        c.due("beds 2", x.beds(4, 2), true);
        ScrapHouse y = Check.houseWith(3);
        y.days(20);
        y.move(0, 4, 3);
        y.move(0, 0, 6);
        y.move(1, 4, 3);
        y.move(1, 0, 6);
        c.due("full on 3 to 5 alone", y.move(2, 4, 2), false);
        c.due("full on 5", y.move(2, 4, 5), false);
        c.due("free on 6", y.move(2, 4, 6), true);
    }

    private static void beds(Check c) {
        ScrapHouse x = Check.houseWith(4);
        for (int nurse = 1; nurse <= 12; nurse++) {
            c.due("beds(" + nurse + ", 1)", x.beds(nurse, 1), true);
            c.due("again", x.beds(nurse, 1), true);
            c.due("beds(" + nurse + ", 3)", x.beds(nurse, 3), true);
            c.due("beds(" + nurse + ", 0)", x.beds(nurse, 0), false);
            c.due("beds(" + nurse + ", 4)", x.beds(nurse, 4), false);
        }
        c.due("no nurse 0", x.beds(0, 2), false);
        c.due("no nurse 13", x.beds(13, 2), false);
        c.due("no nurse -1", x.beds(-1, 2), false);
        c.due("far ones", x.beds(Integer.MAX_VALUE, Integer.MIN_VALUE), false);
        x.days(9);
        for (int child = 0; child < 3; child++) {
            c.due("with 7", x.move(child, 7, 4), true);
        }
        c.due("a fourth", x.move(3, 7, 4), false);
        c.due("two beds are too few", x.beds(7, 2), false);
        x.move(0, 0, 5);
        x.move(1, 0, 5);
        c.due("one alone from 5 on, but three on 4", x.beds(7, 2), false);
        x.move(0, 0, 4);
        c.due("two on 4, as known NOW", x.beds(7, 1), false);
        c.due("two beds do", x.beds(7, 2), true);
        x.move(1, 0, 4);
        c.due("one bed does", x.beds(7, 1), true);
        c.due("it is full", x.move(3, 7, 8), false);
        c.due("another nurse's beds are hers", x.move(3, 8, 8), true);
        ScrapHouse y = Check.houseWith(2);
        y.days(3);
        y.move(1, 5, 0);
        y.move(1, 0, 1);
        y.move(0, 5, 0);
        y.move(0, 0, 1);
        c.due("two on day 0 alone", y.beds(5, 1), false);
        y.move(1, 6, 1);
        y.move(0, 6, 2);
        y.move(0, 0, 3);
        c.due("two on day 2 alone, when the first child came", y.beds(6, 1), false);
    }

    private static void many(Check c) {
        ScrapHouse x = Check.houseWith(3);
        x.days(3);
        Check.leave(x, 0, 0, 0, 0);
        x.days(3);
        x.move(0, 13, 1);
        x.move(1, 13, 2);
        c.due("house on 0", x.many(0, 0, 6), 3);
        c.due("house on 3", x.many(0, 3, 6), 2);
        c.due("house on 3 in 2", x.many(0, 3, 2), 3);
        c.due("house on 3 in 5", x.many(0, 3, 5), 4);
        c.due("bound on 1", x.many(13, 1, 6), 1);
        c.due("bound on 2", x.many(13, 2, 6), 2);
        c.due("bound on 2 in 5", x.many(13, 2, 5), 0);
        c.due("dead", x.many(15, 6, 6), 0);
        c.due("place -1", x.many(-1, 6, 6), -1);
        c.due("place 16", x.many(16, 6, 6), -1);
        c.due("day -1", x.many(0, -1, 6), -1);
        c.due("day 7", x.many(0, 7, 6), -1);
        c.due("q -1", x.many(0, 6, -1), -1);
        c.due("q 7", x.many(0, 6, 7), -1);
        c.due("in the house NOW", x.count(7), 2);
    }

    private static void most(Check c) {
        ScrapHouse x = Check.houseWith(2);
        for (int k = 0; k < 300; k++) {
            c.due("move " + k, x.move(k % 2, k % 14, 0), true);
        }
        c.due("a 301st", x.move(0, 0, 0), false);
        c.due("300 told", x.count(3), 300);
        c.due("150 of it", x.told(0, 7), 150);
        c.due("the last one counts", x.place(1, 0, 0), 299 % 14);
    }
}

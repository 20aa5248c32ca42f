/** Promises 3, 4 and 5: ballot, ball, away. */
public final class BallotTest {
    public static void main(String[] args) {
        Check c = new Check("BallotTest");
        draws(c);
        bounds(c);
        away(c);
        awayAndLeave(c);
        c.end();
    }

    private static void drawn(Check c, ScrapHouse x, int ballot, String balls) {
        for (int i = 0; i < balls.length(); i++) {
            c.due("ball(" + ballot + ", " + i + ")", x.ball(ballot, i), balls.charAt(i) - '0');
        }
        c.due("ball(" + ballot + ", n)", x.ball(ballot, balls.length()), -1);
        c.due("ball(" + ballot + ", -1)", x.ball(ballot, -1), -1);
    }

    private static void draws(Check c) {
        ScrapHouse x = new ScrapHouse();
        c.due("first", x.ballot(6, 2, 2, 1L), 0);
        c.due("second", x.ballot(6, 2, 2, -1L), 1);
        c.due("third", x.ballot(20, 7, 6, 123456789L), 2);
        c.due("fourth", x.ballot(20, 7, 6, Long.MIN_VALUE), 3);
        c.due("fifth", x.ballot(5, 1, 3, 0L), 4);
        c.due("sixth", x.ballot(5, 1, 2, Long.MAX_VALUE), 5);
        c.due("all black", x.ballot(8, 0, 0, 3L), 6);
        c.due("all red", x.ballot(2, 0, 2, 3L), 7);
        c.due("all white", x.ballot(20, 20, 0, 3L), 8);
        drawn(c, x, 0, "120012");
        drawn(c, x, 1, "210201");
        drawn(c, x, 2, "02212120210210200101");
        drawn(c, x, 3, "10222120002021101210");
        drawn(c, x, 4, "10112");
        drawn(c, x, 5, "22011");
        drawn(c, x, 6, "22222222");
        drawn(c, x, 7, "11");
        drawn(c, x, 8, "00000000000000000000");
        c.due("ball(9, 0)", x.ball(9, 0), -1);
        c.due("ball(-1, 0)", x.ball(-1, 0), -1);
        c.due("ball(greatest, greatest)", x.ball(Integer.MAX_VALUE, Integer.MAX_VALUE), -1);
        c.due("ball(0, least)", x.ball(0, Integer.MIN_VALUE), -1);
    }

    private static void bounds(Check c) {
        ScrapHouse x = new ScrapHouse();
        c.due("n 0", x.ballot(0, 0, 0, 1L), -1);
        c.due("n -1", x.ballot(-1, 0, 0, 1L), -1);
        c.due("n 21", x.ballot(21, 0, 0, 1L), -1);
        c.due("white -1", x.ballot(3, -1, 2, 1L), -1);
        c.due("red -1", x.ballot(3, 2, -1, 1L), -1);
        c.due("white 4 of 3", x.ballot(3, 4, 0, 1L), -1);
        c.due("red 4 of 3", x.ballot(3, 0, 4, 1L), -1);
        c.due("white and red 4 of 3", x.ballot(3, 2, 2, 1L), -1);
        c.due("a sum that goes round", x.ballot(3, Integer.MAX_VALUE, Integer.MAX_VALUE, 1L), -1);
        c.due("red that goes round", x.ballot(3, 2, Integer.MAX_VALUE, 1L), -1);
        c.due("none yet", x.count(2), 0);
        c.due("white and red 3 of 3", x.ballot(3, 2, 1, 1L), 0);
        c.due("n 20", x.ballot(20, 1, 1, 1L), 1);
        for (int k = 2; k < 50; k++) {
            c.due("ballot " + k, x.ballot(1, 1, 0, k), k);
        }
        c.due("a 51st", x.ballot(1, 1, 0, 1L), -1);
        c.due("50 in all", x.count(2), 50);
        c.due("the last is there", x.ball(49, 0), 0);
        c.due("no 51st", x.ball(50, 0), -1);
    }

    private static void away(Check c) {
        ScrapHouse x = new ScrapHouse();
        x.ballot(6, 2, 2, 1L);
        c.due("a red one", x.away(0, 0), -2);
        c.due("a black one", x.away(0, 1), -2);
        c.due("the first red has white", x.away(0, 3), 0);
        drawn(c, x, 0, "020312");
        c.due("sent away already", x.away(0, 3), -2);
        c.due("who had red is sent away too", x.away(0, 0), 4);
        drawn(c, x, 0, "320302");
        c.due("nobody waits", x.away(0, 2), -1);
        c.due("nobody waits again", x.away(0, 4), -1);
        drawn(c, x, 0, "323332");
        c.due("no such ballot", x.away(1, 0), -2);
        c.due("no ballot -1", x.away(-1, 0), -2);
        c.due("no such woman", x.away(0, 6), -2);
        c.due("no woman -1", x.away(0, -1), -2);
        x.ballot(3, 1, 1, 42L);
        c.due("of her own ballot alone", x.away(1, 1), 0);
        x.ballot(2, 2, 0, 1L);
        c.due("the last woman is sent away", x.away(2, 1), -1);
        drawn(c, x, 2, "03");
        c.due("away of a far one", x.away(Integer.MIN_VALUE, Integer.MAX_VALUE), -2);
    }

    private static void awayAndLeave(Check c) {
        ScrapHouse x = new ScrapHouse();
        x.ballot(3, 1, 1, 42L);
        c.due("red may not leave", x.leave(0, 0, 0, 0, 0, 0), -1);
        c.due("white is sent away", x.away(0, 1), 0);
        c.due("who was sent away may not leave", x.leave(0, 1, 0, 0, 0, 0), -1);
        c.due("black may not leave", x.leave(0, 2, 0, 0, 0, 0), -1);
        c.due("who has white instead may", x.leave(0, 0, 0, 0, 0, 0), 0);
        drawn(c, x, 0, "432");
        c.due("who left a child is not sent away", x.away(0, 0), -2);
        drawn(c, x, 0, "432");
    }
}

/** Promises 15, 16, 17 and 18: feed, end, fault, rule. */
public final class TapeTest {
    public static void main(String[] args) {
        Check c = new Check("TapeTest");
        feed(c);
        end(c);
        good(c);
        faults(c);
        depths(c);
        rule(c);
        c.end();
    }

    private static void feed(Check c) {
        ScrapHouse x = new ScrapHouse();
        c.due("feed(0)", x.feed(0), 0);
        c.due("bytes of 0 are left out", x.feed(0x6F003D00), 2);
        c.due("the highest first", x.feed(0x00300078), 4);
        c.due("fault", x.fault(), 3);
        c.due("end(3)", x.end(3), true);
        c.due("o=0", x.fault(), -1);
        c.due("bytes above 127", x.feed(0xFFFFFFFF), 7);
        c.due("fault at them", x.fault(), 3);
        ScrapHouse y = new ScrapHouse();
        for (int k = 1; k <= 24; k++) {
            c.due("feed " + k, y.feed(0x20202020), 4 * k);
        }
        c.due("98", y.feed(0x00202000), 98);
        c.due("three more are too many", y.feed(0x20202000), -1);
        c.due("none of them came", y.count(5), 98);
        c.due("two more", y.feed(0x20000020), 100);
        c.due("one more", y.feed(1), -1);
        c.due("none more", y.feed(0), 100);
        c.due("100 in all", y.count(5), 100);
    }

    private static void end(Check c) {
        ScrapHouse x = new ScrapHouse();
        c.due("end(1) of none", x.end(1), false);
        c.due("end(0) of none", x.end(0), true);
        Check.feed(x, "o=12");
        c.due("end(-1)", x.end(-1), false);
        c.due("end(5)", x.end(5), false);
        c.due("end(least)", x.end(Integer.MIN_VALUE), false);
        c.due("4 still", x.count(5), 4);
        c.due("end(4)", x.end(4), true);
        c.due("end(3)", x.end(3), true);
        c.due("3 then", x.count(5), 3);
        c.due("end(4) then", x.end(4), false);
        c.due("what comes goes behind", Check.feed(x, "&x"), 5);
        c.due("fault there", x.fault(), 4);
    }

    private static void good(Check c) {
        String[] texts = {"o=0", "f<1", "w>9999", "c=0000", "d=12", "o=1|f=2", "o=1&f=2", "o=1|f=2&w=3|c=4", "(o=1)",
            "((o=1)|(f=2&(w=3)))&d>5", "(((((((o=1)))))))", "((((((((o=1))))))))", "o = 1", "( o = 1 | f = 2 ) & w < 3",
            "o  =  1  |  f=2", "(o=1)&(f=2)|(w=3)", " o=1", "o=1 ", "  ( o=1 )  "};
        for (String text : texts) {
            c.due("fault of \"" + text + "\"", Check.faultOf(text), -1);
        }
    }

    private static void faults(Check c) {
        Object[][] texts = {{"", 0}, {"x", 0}, {"O=1", 0}, {"=", 0}, {"1", 0}, {"|", 0}, {"&", 0}, {")", 0}, {"()", 1},
            {"o", 1}, {"o1", 1}, {"o!", 1}, {"o=", 2}, {"o==1", 2}, {"o=-1", 2}, {"o<=1", 2}, {"o=x", 2}, {"o= ", 3},
            {"o=1)", 3}, {"o=1(", 3}, {"o=1f=2", 3}, {"o=1|", 4}, {"o=1&", 4}, {"o=1|&", 4}, {"o=1||f=1", 4},
            {"o=1&&f=1", 4}, {"o=1 2", 4}, {"o=1 f", 4}, {"o=12345", 6}, {"o=1234 5", 7}, {"o=1234f", 6},
            {"(o=1", 4}, {"(o=1 ", 5}, {"(o=1))", 5}, {"(o=1)f=1", 5}, {"(o=1)(f=1)", 5}, {"(", 1}, {"(o=1|)", 5},
            {"   ", 3}, {" x", 1}, {"o x", 2}, {"o =  x", 5}, {"o=1\t", 3}, {"o=1\u00A0", 3}, {"\u00EF=1", 0},
            {"o=\u00B1", 2}, {"o=1|x=|", 4}, {"of=1", 1}, {"((o=1)|x", 7}, {"(o=1&(f=2)", 10}, {"o=1&(", 5}};
        for (Object[] t : texts) {
            c.due("fault of \"" + t[0] + "\"", Check.faultOf((String) t[0]), (Integer) t[1]);
        }
    }

    private static void depths(Check c) {
        c.due("eight", Check.faultOf("((((((((o=1))))))))"), -1);
        c.due("a ninth", Check.faultOf("(((((((((o=1)))))))))"), 8);
        c.due("a ninth behind blanks", Check.faultOf("(((((((( (o=1)))))))))"), 9);
        c.due("a ninth behind a unit", Check.faultOf("((((((((o=1&(f=2)"), 12);
        c.due("nine side by side", Check.faultOf("(o=1)|(o=1)|(o=1)|(o=1)|(o=1)|(o=1)|(o=1)|(o=1)|(o=1)|(o=1)"), -1);
        c.due("eight twice", Check.faultOf("((((((((o=1))))))))|((((((((o=1))))))))"), -1);
        c.due("a ninth later", Check.faultOf("((((((((o=1))))))))|(((((((((o=1))))))))"), 28);
        c.due("eight that end too early", Check.faultOf("(((((((("), 8);
        StringBuilder open = new StringBuilder();
        for (int k = 0; k < 100; k++) {
            open.append('(');
        }
        c.due("a hundred", Check.faultOf(open.toString()), 8);
        StringBuilder wide = new StringBuilder("o=1");
        for (int k = 0; k < 24; k++) {
            wide.append(k % 2 == 0 ? "|f=2" : "&w=3");
        }
        c.due("99 bytes", wide.length(), 99);
        c.due("all of them", Check.faultOf(wide.toString()), -1);
        c.due("and one", Check.faultOf(wide + "|"), 100);
    }

    private static void rule(Check c) {
        ScrapHouse x = Check.houseWith(1);
        c.due("an empty tape is none", x.rule(), false);
        Check.feed(x, "o=");
        c.due("a fault", x.rule(), false);
        c.due("the tape is there still", x.count(5), 2);
        c.due("no rule", x.count(6), 0);
        Check.feed(x, "0");
        c.due("fault leaves the tape", x.fault(), -1);
        c.due("3 bytes", x.count(5), 3);
        c.due("a rule", x.rule(), true);
        c.due("one rule", x.count(6), 1);
        c.due("the tape is empty", x.count(5), 0);
        c.due("so it is none", x.rule(), false);
        c.due("it holds", x.claim(Check.ALL, 0, 0, 0, -1, -1), 0);
        c.due("it does not", x.claim(0, 0, 0, 0, -1, -1), -1);
        Check.feed(x, "o=8");
        c.due("a tape is not in force", x.claim(0, 0, 0, 0, -1, -1), -1);
        c.due("a second rule", x.rule(), true);
        c.due("the tape is empty again", x.count(5), 0);
        c.due("and has a fault", x.fault(), 0);
        c.due("the latest is in force", x.claim(0, 0, 0, 0, -1, -1), 0);
        c.due("the first no more", x.claim(Check.ALL, 0, 0, 0, -1, -1), -1);
        Check.feed(x, "w=0x");
        c.due("a faulty one", x.rule(), false);
        c.due("is not in force", x.claim(0, 0, 0, 0, -1, -1), 0);
        x.end(3);
        c.due("a third rule, shorter or not", x.rule(), true);
        c.due("three rules", x.count(6), 3);
        c.due("the tape is empty once more", x.count(5), 0);
        c.due("it holds then", x.claim(Check.ALL, 0, 0, 0, -1, -1), 0);
    }
}

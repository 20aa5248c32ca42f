/** What the tests share: comparing answers, and making houses to ask. */
final class Check {
    static final int ALL = 16_777_215;

    private final String title;
    private int wrong;

    Check(String title) {
        this.title = title;
    }

    void due(String call, long got, long want) {
        if (got != want) {
            wrong++;
            System.out.println(title + ": " + call + " answered " + got + ", due is " + want);
        }
    }

    void due(String call, boolean got, boolean want) {
        due(call, got ? 1 : 0, want ? 1 : 0);
    }

    int wrong() {
        return wrong;
    }

    void end() {
        if (wrong != 0) {
            System.out.println(title + ": " + wrong + " answers are not as due");
            System.exit(1);
        }
    }

    /** A house with a ballot of women who all have white, of whom each left a child: sex 0, mark 0. */
    static ScrapHouse houseWith(int children) {
        ScrapHouse x = new ScrapHouse();
        for (int k = 0; k < children; k++) {
            leave(x, 0, 0, 0, 0);
        }
        return x;
    }

    /** A child is left by the next woman of the latest ballot, of a new one if it was the last of 20. */
    static int leave(ScrapHouse x, int sex, int mark, int edge, int threads) {
        int size = x.count(1) % 20;
        int ballot = size == 0 ? x.ballot(20, 20, 0, 1L) : x.count(2) - 1;
        return x.leave(ballot, size, sex, mark, edge, threads);
    }

    /** Feeds a text, four bytes at once; the last answer. */
    static int feed(ScrapHouse x, String text) {
        int last = x.count(5);
        for (int k = 0; k < text.length(); k += 4) {
            int bytes = 0;
            for (int j = k; j < k + 4; j++) {
                bytes = bytes << 8 | (j < text.length() ? text.charAt(j) : 0);
            }
            last = x.feed(bytes);
        }
        return last;
    }

    static int faultOf(String text) {
        ScrapHouse x = new ScrapHouse();
        feed(x, text);
        return x.fault();
    }

    static boolean setRule(ScrapHouse x, String text) {
        x.end(0);
        feed(x, text);
        return x.rule();
    }
}

import java.util.Random;

/**
 * Mixed calls, the same in every run of the test, of which each answer is compared with the
 * model's. Some runs have few days and nurses, so that beds grow full and moves meet.
 */
public final class ModelTest {
    private static final int RUNS = 2500;
    /** An object is good for so many calls, and one step of a run makes at most so many of them. */
    private static final int CALLS = 512;
    private static final int CALLS_OF_A_STEP = 32;
    private static final int LONGEST_TEXT = 112;
    private static final int[] ODD = {-1, -2, 13, 14, 16, 20, 21, 61, 301, 2001, 16_777_216, 1_000_001,
        Integer.MIN_VALUE, Integer.MAX_VALUE};

    private final Check check;
    private final Random random;
    private final ScrapHouse x = new ScrapHouse();
    private final Model m = new Model();
    private final int nurses;
    private final int step;
    private final int marks;
    private final int oddOf;
    private final String label;
    private int asked;

    private ModelTest(Check check, int run) {
        this.check = check;
        this.random = new Random(run);
        this.nurses = run % 3 == 0 ? 12 : 2;
        this.step = run % 4 == 0 ? 60 : 3;
        this.marks = run % 2 == 0 ? 10 : 2;
        this.oddOf = run % 5 == 0 ? 8 : 60;
        this.label = "run " + run + ": ";
    }

    public static void main(String[] args) {
        Check check = new Check("ModelTest");
        for (int run = 0; run < RUNS; run++) {
            ModelTest test = new ModelTest(check, run);
            while (test.asked <= CALLS - CALLS_OF_A_STEP) {
                test.call(run % 7);
            }
            check.due("calls of run " + run, test.asked > CALLS, false);
        }
        check.end();
    }

    private void due(String call, long got, long want) {
        asked++;
        check.due(label + call, got, want);
    }

    private void due(String call, boolean got, boolean want) {
        asked++;
        check.due(label + call, got, want);
    }

    /** A number from the least to the most, seldom one that may be outside. */
    private int any(int least, int most) {
        if (random.nextInt(oddOf) == 0) {
            return ODD[random.nextInt(ODD.length)];
        }
        long size = (long) most - least + 1;
        return size <= 0 ? least : (int) (least + (long) (random.nextDouble() * size));
    }

    private int child() {
        return any(0, m.count(1) - 1);
    }

    private int day() {
        return any(0, m.count(0));
    }

    private int lateDay() {
        int now = m.count(0);
        return any(Math.max(0, now - 12), now);
    }

    private int q() {
        return random.nextBoolean() ? m.count(0) : day();
    }

    /** Few numbers at each place, so that halves are often not far off. */
    private int half(int bits) {
        int numbers = 0;
        for (int k = 0; k < 8; k++) {
            numbers |= (random.nextInt(4) == 0 ? random.nextInt(8) : bits) << 3 * k;
        }
        return random.nextInt(oddOf) == 0 ? ODD[random.nextInt(ODD.length)] : numbers;
    }

    private void call(int kind) {
        int k = random.nextInt(100);
        if (k < 6) {
            int n = random.nextInt(40) == 0 ? any(0, 1000) : any(0, step);
            due("days(" + n + ")", x.days(n), m.days(n));
        } else if (k < 22) {
            women();
        } else if (k < 45) {
            moves(kind);
        } else if (k < 60) {
            places();
        } else if (k < 72) {
            nurses();
        } else if (k < 80) {
            rules();
        } else if (k < 88) {
            claims();
        } else if (k < 96) {
            names();
        } else {
            counts();
        }
    }

    private void women() {
        int ballot = any(m.count(2) - 2, m.count(2) - 1);
        int i = any(0, 7);
        switch (random.nextInt(6)) {
            case 0 -> {
                int n = any(1, 20);
                int white = any(0, Math.max(0, n));
                int red = any(0, Math.max(0, n - white));
                long seed = random.nextLong();
                due("ballot(" + n + ", " + white + ", " + red + ", " + seed + ")", x.ballot(n, white, red, seed),
                    m.ballot(n, white, red, seed));
            }
            case 1 -> due("ball(" + ballot + ", " + i + ")", x.ball(ballot, i), m.ball(ballot, i));
            case 2 -> due("away(" + ballot + ", " + i + ")", x.away(ballot, i), m.away(ballot, i));
            default -> {
                int sex = any(0, 1);
                int mark = any(0, marks - 1);
                int edge = half(2);
                int threads = half(3);
                due("leave(" + ballot + ", " + i + ", " + sex + ", " + mark + ", " + edge + ", " + threads + ")",
                    x.leave(ballot, i, sex, mark, edge, threads), m.leave(ballot, i, sex, mark, edge, threads));
            }
        }
    }

    private void moves(int kind) {
        if (random.nextInt(8) == 0) {
            int nurse = any(1, nurses);
            int many = any(1, 3);
            due("beds(" + nurse + ", " + many + ")", x.beds(nurse, many), m.beds(nurse, many));
            return;
        }
        int child = child();
        int place = random.nextInt(3) > 0 ? any(1, nurses) : any(0, random.nextInt(8) == 0 ? 15 : 0);
        int from = kind == 0 ? day() : lateDay();
        due("move(" + child + ", " + place + ", " + from + ")", x.move(child, place, from), m.move(child, place, from));
    }

    private void places() {
        int day = day();
        int q = q();
        if (random.nextBoolean()) {
            int child = child();
            due("place(" + child + ", " + day + ", " + q + ")", x.place(child, day, q), m.place(child, day, q));
        } else {
            int place = random.nextBoolean() ? any(0, nurses) : any(0, 15);
            due("many(" + place + ", " + day + ", " + q + ")", x.many(place, day, q), m.many(place, day, q));
        }
    }

    private void nurses() {
        int nurse = any(1, nurses);
        int kind = random.nextInt(4);
        if (kind < 2) {
            due("look(" + nurse + ")", x.look(nurse), m.look(nurse));
            return;
        }
        int weeks = m.count(0) / 7 + 1;
        int first = any(0, weeks);
        int last = random.nextInt(4) == 0 ? any(0, 300) : any(first, Math.max(first, weeks));
        int q = q();
        String with = "(" + nurse + ", " + first + ", " + last + ", " + q + ")";
        due("pay" + with, x.pay(nurse, first, last, q), m.pay(nurse, first, last, q));
        due("gap" + with, x.gap(nurse, first, last, q), m.gap(nurse, first, last, q));
    }

    private String tests(int depth) {
        StringBuilder text = new StringBuilder();
        int units = 1 + random.nextInt(3);
        for (int k = 0; k < units; k++) {
            text.append(k == 0 ? "" : random.nextBoolean() ? "|" : "&");
            text.append(random.nextInt(9) == 0 ? " " : "");
            if (random.nextInt(10) < depth) {
                text.append('(').append(tests(depth - 1)).append(')');
            } else {
                text.append("ofwcd".charAt(random.nextInt(5))).append(random.nextInt(9) == 0 ? " " : "");
                text.append("=<>".charAt(random.nextInt(3))).append(random.nextInt(9) == 0 ? " " : "");
                text.append(random.nextInt(9) == 0 ? random.nextInt(12000) : random.nextInt(5));
            }
            text.append(random.nextInt(9) == 0 ? " " : "");
        }
        return text.toString();
    }

    private void rules() {
        switch (random.nextInt(8)) {
            case 0 -> {
                int bytes = random.nextInt();
                due("feed(" + bytes + ")", x.feed(bytes), m.feed(bytes));
            }
            case 1 -> {
                int n = any(0, m.count(5));
                due("end(" + n + ")", x.end(n), m.end(n));
            }
            case 2 -> wrongRule();
            default -> {
                due("end(0)", x.end(0), m.end(0));
                feed(tests(random.nextInt(7)));
            }
        }
        due("fault()", x.fault(), m.fault());
        due("rule()", x.rule(), m.rule());
    }

    private void wrongRule() {
        StringBuilder text = new StringBuilder(tests(6));
        String bytes = "ofwcd=<>()|& 0123456789xO\u00FF";
        for (int k = random.nextInt(3); k >= 0; k--) {
            int at = random.nextInt(text.length());
            text.setCharAt(at, bytes.charAt(random.nextInt(bytes.length())));
            text.insert(random.nextInt(text.length()), bytes.charAt(random.nextInt(bytes.length())));
        }
        due("end(0)", x.end(0), m.end(0));
        feed(text.toString());
        due("fault()", x.fault(), m.fault());
    }

    private void feed(String text) {
        int length = Math.min(text.length(), LONGEST_TEXT);
        for (int k = 0; k < length; k += 4) {
            int bytes = 0;
            for (int j = k; j < k + 4; j++) {
                bytes = bytes << 8 | (j < length ? text.charAt(j) : 0);
            }
            due("feed(" + bytes + ")", x.feed(bytes), m.feed(bytes));
        }
    }

    private void claims() {
        int edge = half(5);
        int threads = half(3);
        if (random.nextInt(3) == 0) {
            int child = child();
            due("off(" + child + ", " + edge + ", " + threads + ")", x.off(child, edge, threads),
                m.off(child, edge, threads));
            return;
        }
        int first = day();
        int last = random.nextBoolean() ? any(first, Math.max(first, m.count(0))) : any(0, 2000);
        int sex = any(-1, 1);
        int mark = any(-1, marks - 1);
        due("claim(" + edge + ", " + threads + ", " + first + ", " + last + ", " + sex + ", " + mark + ")",
            x.claim(edge, threads, first, last, sex, mark), m.claim(edge, threads, first, last, sex, mark));
    }

    private void names() {
        int child = child();
        int who = any(0, random.nextBoolean() ? 3 : 19);
        int number = any(1, random.nextInt(9) == 0 ? 1_000_000 : 3);
        boolean is = random.nextInt(3) > 0;
        switch (random.nextInt(4)) {
            case 0 -> due("name(" + child + ", " + number + ")", x.name(child, number), m.name(child, number));
            case 1 -> due("allow(" + who + ", " + child + ", " + is + ")", x.allow(who, child, is),
                m.allow(who, child, is));
            case 2 -> due("ask(" + who + ", " + child + ")", x.ask(who, child), m.ask(who, child));
            default -> due("guess(" + who + ", " + child + ", " + number + ")", x.guess(who, child, number),
                m.guess(who, child, number));
        }
    }

    private void counts() {
        int what = any(0, 7);
        int child = child();
        due("count(" + what + ")", x.count(what), m.count(what));
        due("told(" + child + ", " + what + ")", x.told(child, what), m.told(child, what));
    }
}

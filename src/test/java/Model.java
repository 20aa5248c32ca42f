import java.math.BigInteger;
import java.util.ArrayList;
import java.util.List;

/**
 * The document written down a second time, as slowly and as near to its words as can be: every
 * question is answered from the list of all that was told, day by day.
 */
final class Model {
    private static final int NONE = -1;

    private record Told(int child, int place, int from, int day) { }

    private record Left(int day, int sex, int mark, int edge, int threads, int ballot, int woman) { }

    private record Look(int nurse, int day) { }

    private final List<List<Integer>> ballots = new ArrayList<>();
    private final List<Left> children = new ArrayList<>();
    private final List<Told> moves = new ArrayList<>();
    private final List<Look> looks = new ArrayList<>();
    private final List<Integer> names = new ArrayList<>();
    private final List<boolean[]> allowed = new ArrayList<>();
    private final int[] beds = {0, 2, 2, 2, 2, 2, 2, 2, 2, 2, 2, 2, 2};
    private final StringBuilder tape = new StringBuilder();
    private String rule;
    private int rules;
    private int now;

    int days(int n) {
        if (n < 0 || n > 1000 || now + n > 2000) {
            return NONE;
        }
        now += n;
        return now;
    }

    int ballot(int n, int white, int red, long seed) {
        if (n < 1 || n > 20 || white < 0 || red < 0 || (long) white + red > n || ballots.size() == 50) {
            return NONE;
        }
        BigInteger round = BigInteger.ONE.shiftLeft(64);
        BigInteger x = BigInteger.valueOf(seed).mod(round);
        List<Integer> line = new ArrayList<>();
        for (int k = 0; k < n; k++) {
            line.add(k < white ? 0 : k < white + red ? 1 : 2);
        }
        List<Integer> drawn = new ArrayList<>();
        while (!line.isEmpty()) {
            x = x.multiply(new BigInteger("6364136223846793005")).add(new BigInteger("1442695040888963407")).mod(round);
            drawn.add(line.remove(x.shiftRight(33).mod(BigInteger.valueOf(line.size())).intValue()));
        }
        ballots.add(drawn);
        return ballots.size() - 1;
    }

    int ball(int ballot, int i) {
        if (ballot < 0 || ballot >= ballots.size() || i < 0 || i >= ballots.get(ballot).size()) {
            return NONE;
        }
        return ballots.get(ballot).get(i);
    }

    int away(int ballot, int i) {
        if (ball(ballot, i) != 0) {
            return -2;
        }
        ballots.get(ballot).set(i, 3);
        int next = ballots.get(ballot).indexOf(1);
        if (next >= 0) {
            ballots.get(ballot).set(next, 0);
        }
        return next;
    }

    int leave(int ballot, int i, int sex, int mark, int edge, int threads) {
        if (ball(ballot, i) != 0 || sex < 0 || sex > 1 || mark < 0 || mark > 9 || !half(edge, threads)
            || children.size() == 60) {
            return NONE;
        }
        ballots.get(ballot).set(i, 4);
        children.add(new Left(now, sex, mark, edge, threads, ballot, i));
        names.add(0);
        allowed.add(new boolean[20]);
        return children.size() - 1;
    }

    private static boolean half(int edge, int threads) {
        return edge >= 0 && edge <= 16_777_215 && threads >= 0 && threads <= 16_777_215;
    }

    private boolean noChild(int child) {
        return child < 0 || child >= children.size();
    }

    private boolean notPast(int day) {
        return day < 0 || day > now;
    }

    private boolean overFull(int nurse, int most, int first) {
        for (int day = first; day <= now; day++) {
            if (many(nurse, day, now) > most) {
                return true;
            }
        }
        return false;
    }

    boolean beds(int nurse, int many) {
        if (nurse < 1 || nurse > 12 || many < 1 || many > 3 || overFull(nurse, many, 0)) {
            return false;
        }
        beds[nurse] = many;
        return true;
    }

    boolean move(int child, int place, int from) {
        if (noChild(child) || place < 0 || place > 15 || from < children.get(child).day || from > now
            || place(child, from, now) >= 14 || moves.size() == 300) {
            return false;
        }
        moves.add(new Told(child, place, from, now));
        if (place >= 1 && place <= 12 && overFull(place, beds[place], from)) {
            moves.remove(moves.size() - 1);
            return false;
        }
        return true;
    }

    int place(int child, int day, int q) {
        if (noChild(child) || notPast(day) || notPast(q) || children.get(child).day > Math.min(day, q)) {
            return NONE;
        }
        Told best = null;
        for (Told t : moves) {
            boolean counts = t.child == child && t.day <= q && t.from <= day;
            if (counts && (best == null || t.from >= best.from)) {
                best = t;
            }
        }
        return best == null ? 0 : best.place;
    }

    boolean look(int nurse) {
        if (nurse < 1 || nurse > 12 || looks.contains(new Look(nurse, now))) {
            return false;
        }
        looks.add(new Look(nurse, now));
        return true;
    }

    int many(int place, int day, int q) {
        if (place < 0 || place > 15 || notPast(day) || notPast(q)) {
            return NONE;
        }
        int found = 0;
        for (int child = 0; child < children.size(); child++) {
            found += place(child, day, q) == place ? 1 : 0;
        }
        return found;
    }

    private boolean seen(int nurse, int week, int q) {
        for (Look look : looks) {
            if (look.nurse == nurse && look.day / 7 == week && look.day <= q) {
                return true;
            }
        }
        return false;
    }

    private int daysOf(int nurse, int first, int last, int q, boolean inSeen) {
        if (nurse < 1 || nurse > 12 || first < 0 || last > 300 || first > last || notPast(q)) {
            return NONE;
        }
        int days = 0;
        for (int day = 0; day <= q; day++) {
            int week = day / 7;
            if (week >= first && week <= last && seen(nurse, week, q) == inSeen) {
                days += many(nurse, day, q);
            }
        }
        return days;
    }

    int pay(int nurse, int first, int last, int q) {
        int days = daysOf(nurse, first, last, q, true);
        return days == NONE ? NONE : 2 * days;
    }

    int gap(int nurse, int first, int last, int q) {
        return daysOf(nurse, first, last, q, false);
    }

    int off(int child, int edge, int threads) {
        if (noChild(child) || !half(edge, threads)) {
            return NONE;
        }
        Left left = children.get(child);
        int asItIs = 0;
        int turned = 0;
        for (int k = 0; k < 8; k++) {
            asItIs += meets(left, k, edge, threads, k) ? 0 : 1;
            turned += meets(left, k, edge, threads, 7 - k) ? 0 : 1;
        }
        return Math.min(asItIs, turned);
    }

    private static boolean meets(Left left, int k, int edge, int threads, int other) {
        int power = 1 << 3 * k;
        int otherPower = 1 << 3 * other;
        return left.edge / power % 8 + edge / otherPower % 8 == 7
            && left.threads / power % 8 == threads / otherPower % 8;
    }

    int feed(int bytes) {
        StringBuilder more = new StringBuilder();
        for (int k = 3; k >= 0; k--) {
            int one = (int) ((bytes & 0xFFFFFFFFL) / (1L << 8 * k) % 256);
            if (one != 0) {
                more.append((char) one);
            }
        }
        if (tape.length() + more.length() > 100) {
            return NONE;
        }
        tape.append(more);
        return tape.length();
    }

    boolean end(int n) {
        if (n < 0 || n > tape.length()) {
            return false;
        }
        tape.setLength(n);
        return true;
    }

    /** What is due next: a unit, one of = < >, a digit, a digit or what follows, what follows a unit. */
    private enum Due { UNIT, SIGN, NUMBER, DIGIT, JOIN }

    int fault() {
        Due due = Due.UNIT;
        int depth = 0;
        int digits = 0;
        for (int i = 0; i < tape.length(); i++) {
            char b = tape.charAt(i);
            boolean digit = b >= '0' && b <= '9';
            if (due == Due.DIGIT && !digit) {
                due = Due.JOIN;
            }
            if (b == ' ') {
                continue;
            }
            if (due == Due.UNIT && b == '(' && depth < 8) {
                depth++;
            } else if (due == Due.UNIT && "ofwcd".indexOf(b) >= 0) {
                due = Due.SIGN;
            } else if (due == Due.SIGN && "=<>".indexOf(b) >= 0) {
                due = Due.NUMBER;
                digits = 0;
            } else if ((due == Due.NUMBER || due == Due.DIGIT) && digit && digits < 4) {
                due = Due.DIGIT;
                digits++;
            } else if (due == Due.JOIN && (b == '|' || b == '&')) {
                due = Due.UNIT;
            } else if (due == Due.JOIN && b == ')' && depth > 0) {
                depth--;
            } else {
                return i;
            }
        }
        return depth == 0 && (due == Due.JOIN || due == Due.DIGIT) ? NONE : tape.length();
    }

    boolean rule() {
        if (fault() != NONE) {
            return false;
        }
        rule = tape.toString().replace(" ", "");
        rules++;
        tape.setLength(0);
        return true;
    }

    /** The text's parts with a sign between that stands in no brackets. */
    private static List<String> split(String text, char sign) {
        List<String> parts = new ArrayList<>();
        int depth = 0;
        int start = 0;
        for (int i = 0; i < text.length(); i++) {
            char b = text.charAt(i);
            depth += b == '(' ? 1 : b == ')' ? -1 : 0;
            if (b == sign && depth == 0) {
                parts.add(text.substring(start, i));
                start = i + 1;
            }
        }
        parts.add(text.substring(start));
        return parts;
    }

    private static boolean holds(String tests, int[] values) {
        boolean any = false;
        for (String part : split(tests, '|')) {
            boolean all = true;
            for (String unit : split(part, '&')) {
                all &= unitHolds(unit, values);
            }
            any |= all;
        }
        return any;
    }

    private static boolean unitHolds(String unit, int[] values) {
        if (unit.charAt(0) == '(') {
            return holds(unit.substring(1, unit.length() - 1), values);
        }
        int compared = Integer.compare(values["ofwcd".indexOf(unit.charAt(0))], Integer.parseInt(unit.substring(2)));
        return compared == "<=>".indexOf(unit.charAt(1)) - 1;
    }

    int claim(int edge, int threads, int first, int last, int sex, int mark) {
        if (!half(edge, threads) || first < 0 || last > 2000 || first > last || sex < -1 || sex > 1 || mark < -1
            || mark > 9) {
            return -3;
        }
        List<Integer> there = new ArrayList<>();
        List<int[]> facts = new ArrayList<>();
        int fitting = 0;
        for (int child = 0; child < children.size(); child++) {
            if (place(child, now, now) < 14) {
                Left left = children.get(child);
                int agree = left.day >= first && left.day <= last ? 1 : 0;
                agree += sex != NONE && left.sex == sex ? 1 : 0;
                agree += mark != NONE && left.mark == mark ? 1 : 0;
                int told = 1 + (sex == NONE ? 0 : 1) + (mark == NONE ? 0 : 1);
                there.add(child);
                facts.add(new int[] {off(child, edge, threads), agree, told - agree, 0, now - left.day});
                fitting += agree == told ? 1 : 0;
            }
        }
        List<Integer> held = new ArrayList<>();
        for (int k = 0; k < there.size(); k++) {
            facts.get(k)[3] = fitting;
            if (rule != null && holds(rule, facts.get(k))) {
                held.add(there.get(k));
            }
        }
        return held.isEmpty() ? NONE : held.size() > 1 ? -2 : held.get(0);
    }

    boolean name(int child, int number) {
        if (noChild(child) || number < 1 || number > 1_000_000 || names.get(child) != 0) {
            return false;
        }
        names.set(child, number);
        return true;
    }

    private boolean noAsker(int who, int child) {
        return noChild(child) || who < 0 || who > 19;
    }

    boolean allow(int who, int child, boolean is) {
        if (noAsker(who, child) || allowed.get(child)[who] == is) {
            return false;
        }
        allowed.get(child)[who] = is;
        return true;
    }

    int ask(int who, int child) {
        if (noAsker(who, child)) {
            return NONE;
        }
        return allowed.get(child)[who] ? names.get(child) : 0;
    }

    int guess(int who, int child, int number) {
        if (noAsker(who, child) || number < 1 || number > 1_000_000) {
            return NONE;
        }
        return allowed.get(child)[who] && names.get(child) == number ? 1 : 0;
    }

    int told(int child, int what) {
        if (noChild(child) || what < 0 || what > 7) {
            return NONE;
        }
        Left left = children.get(child);
        int moved = 0;
        for (Told t : moves) {
            moved += t.child == child ? 1 : 0;
        }
        return new int[] {left.day, left.sex, left.mark, left.edge, left.threads, left.ballot, left.woman, moved}[what];
    }

    int count(int what) {
        if (what < 0 || what > 7) {
            return NONE;
        }
        return new int[] {now, children.size(), ballots.size(), moves.size(), looks.size(), tape.length(), rules,
            many(0, now, now)}[what];
    }
}

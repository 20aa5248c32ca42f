/**
 * A house for children who were left: ballots, places as known on any day, nurses' pay, claims by
 * a half of a scrap and by facts, and mothers' names.
 *
 * <p>No call throws: what can't be done is refused with the answer that the document names.
 */
public final class ScrapHouse {
    public static final int NONE = -1;

    private static final int NOT_WHITE = -2;
    private static final int SEVERAL = -2;
    private static final int OUT_OF_BOUNDS = -3;

    private static final int MOST_DAYS_AT_ONCE = 1000;
    private static final int LAST_DAY = 2000;
    private static final int DAYS_OF_WEEK = 7;
    private static final int LAST_WEEK = 300;

    private static final int MOST_WOMEN = 20;
    private static final int MOST_BALLOTS = 50;
    private static final int MOST_CHILDREN = 60;
    private static final int MOST_MOVES = 300;
    private static final int MOST_BYTES = 100;
    private static final int LAST_MARK = 9;
    private static final int LAST_NAME = 1_000_000;
    private static final int LAST_WHO = 19;

    private static final int HOUSE = 0;
    private static final int NURSES = 12;
    private static final int CLAIMED = 14;
    private static final int DEAD = 15;
    private static final int MOST_BEDS = 3;
    private static final int PAY_A_DAY = 2;

    private int now;
    private int ballotCount;
    private int childCount;
    private int moveCount;
    private int lookCount;
    private int ruleCount;
    private final Ballot[] ballots = new Ballot[MOST_BALLOTS];
    private final Child[] children = new Child[MOST_CHILDREN];
    private final Nurse[] nurses = new Nurse[NURSES + 1];
    private Text tape = new Text();
    private Text inForce = new Text();
    private final Reader reader = new Reader(inForce);

    public ScrapHouse() {
        for (int number = 1; number <= NURSES; number++) {
            nurses[number] = new Nurse();
        }
    }

    public int days(int n) {
        if (!within(n, 0, MOST_DAYS_AT_ONCE) || now + n > LAST_DAY) {
            return NONE;
        }
        now += n;
        return now;
    }

    public int ballot(int n, int white, int red, long seed) {
        if (!within(n, 1, MOST_WOMEN) || !within(white, 0, n) || !within(red, 0, n - white)) {
            return NONE;
        }
        if (ballotCount >= MOST_BALLOTS) {
            return NONE;
        }
        ballots[ballotCount] = new Ballot(n, white, red, seed);
        ballotCount++;
        return ballotCount - 1;
    }

    public int ball(int ballot, int i) {
        Ballot found = findBallot(ballot);
        return found == null ? NONE : found.ballOf(i);
    }

    public int away(int ballot, int i) {
        Ballot found = findBallot(ballot);
        if (found == null || found.ballOf(i) != Ballot.WHITE) {
            return NOT_WHITE;
        }
        return found.sendAway(i);
    }

    public int leave(int ballot, int i, int sex, int mark, int edge, int threads) {
        Ballot found = findBallot(ballot);
        if (found == null || found.ballOf(i) != Ballot.WHITE) {
            return NONE;
        }
        if (!within(sex, 0, 1) || !within(mark, 0, LAST_MARK) || !Half.canBe(edge, threads)) {
            return NONE;
        }
        if (childCount >= MOST_CHILDREN) {
            return NONE;
        }
        found.give(i, Ballot.LEFT);
        children[childCount] = new Child(now, sex, mark, new Half(edge, threads), ballot, i);
        childCount++;
        return childCount - 1;
    }

    public boolean beds(int nurse, int many) {
        Nurse found = findNurse(nurse);
        if (found == null || !within(many, 1, MOST_BEDS) || isOver(nurse, many, 0)) {
            return false;
        }
        found.bedCount = many;
        return true;
    }

    public boolean move(int child, int place, int from) {
        Child found = findChild(child);
        if (found == null || !isPlace(place) || !within(from, found.day, now)) {
            return false;
        }
        if (moveCount >= MOST_MOVES || isGone(found, from)) {
            return false;
        }
        Move before = found.lastUpTo(from);
        Move told = new Move(place, from, now);
        told.next = before.next;
        before.next = told;
        Nurse nurse = findNurse(place);
        if (nurse != null && isOver(place, nurse.bedCount, from)) {
            before.next = told.next;
            return false;
        }
        found.moveCount++;
        moveCount++;
        return true;
    }

    public int place(int child, int day, int q) {
        Child found = findChild(child);
        if (found == null || !isPast(day) || !isPast(q)) {
            return NONE;
        }
        return found.placeOn(day, q);
    }

    public boolean look(int nurse) {
        Nurse found = findNurse(nurse);
        if (found == null || (found.latest != null && found.latest.day == now)) {
            return false;
        }
        found.latest = new Look(now, found.latest);
        lookCount++;
        return true;
    }

    public int many(int place, int day, int q) {
        if (!isPlace(place) || !isPast(day) || !isPast(q)) {
            return NONE;
        }
        return childrenAt(place, day, q);
    }

    public int pay(int nurse, int first, int last, int q) {
        Nurse found = findNurse(nurse);
        if (found == null || !areWeeks(first, last) || !isPast(q)) {
            return NONE;
        }
        return PAY_A_DAY * seenDays(nurse, found.latest, first, last, q);
    }

    public int gap(int nurse, int first, int last, int q) {
        Nurse found = findNurse(nurse);
        if (found == null || !areWeeks(first, last) || !isPast(q)) {
            return NONE;
        }
        int all = daysWith(nurse, first, last, q);
        return all - seenDays(nurse, found.latest, first, last, q);
    }

    public int off(int child, int edge, int threads) {
        Child found = findChild(child);
        if (found == null || !Half.canBe(edge, threads)) {
            return NONE;
        }
        return found.half.farOff(new Half(edge, threads));
    }

    public int feed(int bytes) {
        int more = 0;
        for (int shift = 24; shift >= 0; shift -= 8) {
            if ((bytes >>> shift & 255) != 0) {
                more++;
            }
        }
        if (tape.length + more > MOST_BYTES) {
            return NONE;
        }
        for (int shift = 24; shift >= 0; shift -= 8) {
            tape.add(bytes >>> shift & 255);
        }
        return tape.length;
    }

    public boolean end(int n) {
        if (!within(n, 0, tape.length)) {
            return false;
        }
        tape.length = n;
        return true;
    }

    public int fault() {
        return reader.faultOf(tape);
    }

    public boolean rule() {
        if (reader.faultOf(tape) != NONE) {
            return false;
        }
        Text old = inForce;
        inForce = tape;
        tape = old;
        tape.length = 0;
        ruleCount++;
        return true;
    }

    public int claim(int edge, int threads, int first, int last, int sex, int mark) {
        if (!Half.canBe(edge, threads) || !within(first, 0, LAST_DAY) || !within(last, first, LAST_DAY)) {
            return OUT_OF_BOUNDS;
        }
        if (!within(sex, NONE, 1) || !within(mark, NONE, LAST_MARK)) {
            return OUT_OF_BOUNDS;
        }
        Claim made = new Claim(new Half(edge, threads), first, last, sex, mark);
        int fitting = childrenFitting(made);
        int answer = NONE;
        for (int number = 0; number < childCount; number++) {
            setValues(children[number], made, fitting);
            if (!isGone(children[number], now) && reader.holds(inForce)) {
                answer = answer == NONE ? number : SEVERAL;
            }
        }
        return answer;
    }

    public boolean name(int child, int number) {
        Child found = findChild(child);
        if (found == null || !within(number, 1, LAST_NAME) || found.mother != Child.UNTOLD) {
            return false;
        }
        found.mother = number;
        return true;
    }

    public boolean allow(int who, int child, boolean is) {
        Child found = findChild(child);
        if (found == null || !isWho(who) || found.mayAsk(who) == is) {
            return false;
        }
        found.askers ^= 1 << who;
        return true;
    }

    public int ask(int who, int child) {
        Child found = findChild(child);
        if (found == null || !isWho(who)) {
            return NONE;
        }
        return found.mayAsk(who) ? found.mother : Child.UNTOLD;
    }

    public int guess(int who, int child, int number) {
        Child found = findChild(child);
        if (found == null || !isWho(who) || !within(number, 1, LAST_NAME)) {
            return NONE;
        }
        return found.mayAsk(who) && found.mother == number ? 1 : 0;
    }

    public int told(int child, int what) {
        Child found = findChild(child);
        if (found == null) {
            return NONE;
        }
        switch (what) {
            case 0:
                return found.day;
            case 1:
                return found.sex;
            case 2:
                return found.mark;
            case 3:
                return found.half.edge;
            case 4:
                return found.half.threads;
            case 5:
                return found.ballot;
            case 6:
                return found.woman;
            case 7:
                return found.moveCount;
            default:
                return NONE;
        }
    }

    public int count(int what) {
        switch (what) {
            case 0:
                return now;
            case 1:
                return childCount;
            case 2:
                return ballotCount;
            case 3:
                return moveCount;
            case 4:
                return lookCount;
            case 5:
                return tape.length;
            case 6:
                return ruleCount;
            case 7:
                return childrenAt(HOUSE, now, now);
            default:
                return NONE;
        }
    }

    private static boolean within(int value, int least, int most) {
        return value >= least && value <= most;
    }

    private static boolean isPlace(int place) {
        return within(place, HOUSE, DEAD);
    }

    private static boolean isWho(int who) {
        return within(who, 0, LAST_WHO);
    }

    private static boolean areWeeks(int first, int last) {
        return within(first, 0, LAST_WEEK) && within(last, first, LAST_WEEK);
    }

    private boolean isPast(int day) {
        return within(day, 0, now);
    }

    private Ballot findBallot(int number) {
        return within(number, 0, ballotCount - 1) ? ballots[number] : null;
    }

    private Child findChild(int number) {
        return within(number, 0, childCount - 1) ? children[number] : null;
    }

    private Nurse findNurse(int number) {
        return within(number, 1, NURSES) ? nurses[number] : null;
    }

    private boolean isGone(Child child, int day) {
        int at = child.placeOn(day, now);
        return at == CLAIMED || at == DEAD;
    }

    private int childrenAt(int place, int day, int q) {
        int found = 0;
        for (int number = 0; number < childCount; number++) {
            if (children[number].placeOn(day, q) == place) {
                found++;
            }
        }
        return found;
    }

    /**
     * Whether on some day from the first one on, as known now, more children are with a nurse than
     * so many. They can only grow more on a day from which a move to her tells, so no other days
     * behind the first one are looked at.
     */
    private boolean isOver(int nurse, int many, int firstDay) {
        if (childrenAt(nurse, firstDay, now) > many) {
            return true;
        }
        for (int number = 0; number < childCount; number++) {
            for (Move m = children[number].coming; m != null; m = m.next) {
                boolean comes = m.place == nurse && m.from > firstDay;
                if (comes && childrenAt(nurse, m.from, now) > many) {
                    return true;
                }
            }
        }
        return false;
    }

    private int daysWith(int nurse, int firstWeek, int lastWeek, int q) {
        int firstDay = DAYS_OF_WEEK * firstWeek;
        int lastDay = Math.min(DAYS_OF_WEEK * lastWeek + DAYS_OF_WEEK - 1, q);
        int days = 0;
        for (int number = 0; number < childCount; number++) {
            days += children[number].daysAt(nurse, firstDay, lastDay, q);
        }
        return days;
    }

    private int seenDays(int nurse, Look latest, int firstWeek, int lastWeek, int q) {
        int days = 0;
        int counted = NONE;
        for (Look look = latest; look != null; look = look.earlier) {
            int week = look.day / DAYS_OF_WEEK;
            boolean known = look.day <= q && within(week, firstWeek, lastWeek);
            // Looks of one week stand side by side: this alone keeps it from counting twice.
            if (known && week != counted) {
                days += daysWith(nurse, week, week, q);
                counted = week;
            }
        }
        return days;
    }

    private int childrenFitting(Claim claim) {
        int fitting = 0;
        for (int number = 0; number < childCount; number++) {
            if (!isGone(children[number], now) && claim.disagreeing(children[number]) == 0) {
                fitting++;
            }
        }
        return fitting;
    }

    private void setValues(Child child, Claim claim, int fitting) {
        reader.values[Reader.OFF] = child.half.farOff(claim.half);
        reader.values[Reader.AGREEING] = claim.agreeing(child);
        reader.values[Reader.DISAGREEING] = claim.disagreeing(child);
        reader.values[Reader.FITTING] = fitting;
        reader.values[Reader.DAYS_HERE] = now - child.day;
    }

    private static final class Ballot {
        static final int WHITE = 0;
        static final int RED = 1;
        static final int BLACK = 2;
        static final int AWAY = 3;
        static final int LEFT = 4;

        private static final long FACTOR = 6364136223846793005L;
        private static final long ADDEND = 1442695040888963407L;
        private static final int DROPPED_BITS = 33;

        private final int[] has;

        Ballot(int n, int white, int red, long seed) {
            int[] line = new int[n];
            for (int k = 0; k < n; k++) {
                line[k] = kindOf(k, white, red);
            }
            has = new int[n];
            long x = seed;
            for (int i = 0; i < n; i++) {
                int left = n - i;
                x = x * FACTOR + ADDEND;
                int drawn = (int) ((x >>> DROPPED_BITS) % left);
                has[i] = line[drawn];
                System.arraycopy(line, drawn + 1, line, drawn, left - drawn - 1);
            }
        }

        private static int kindOf(int ball, int white, int red) {
            if (ball < white) {
                return WHITE;
            }
            return ball < white + red ? RED : BLACK;
        }

        int ballOf(int i) {
            return within(i, 0, has.length - 1) ? has[i] : NONE;
        }

        void give(int i, int ball) {
            if (within(i, 0, has.length - 1)) {
                has[i] = ball;
            }
        }

        int sendAway(int i) {
            give(i, AWAY);
            for (int k = 0; k < has.length; k++) {
                if (has[k] == RED) {
                    has[k] = WHITE;
                    return k;
                }
            }
            return NONE;
        }
    }

    /** Half of a scrap: an edge and threads, three bits for each of eight places. */
    private static final class Half {
        private static final int PLACES = 8;
        private static final int BITS = 3;
        private static final int GREATEST = 7;
        private static final int MOST = 16_777_215;

        final int edge;
        final int threads;

        Half(int edge, int threads) {
            this.edge = edge;
            this.threads = threads;
        }

        static boolean canBe(int edge, int threads) {
            return within(edge, 0, MOST) && within(threads, 0, MOST);
        }

        int farOff(Half other) {
            int asItIs = unlike(other.edge, other.threads);
            int turned = unlike(turn(other.edge), turn(other.threads));
            return Math.min(asItIs, turned);
        }

        private int unlike(int otherEdge, int otherThreads) {
            int found = 0;
            for (int k = 0; k < PLACES; k++) {
                boolean meets = numberAt(edge, k) + numberAt(otherEdge, k) == GREATEST;
                if (!meets || numberAt(threads, k) != numberAt(otherThreads, k)) {
                    found++;
                }
            }
            return found;
        }

        private static int numberAt(int numbers, int k) {
            return numbers >> BITS * k & GREATEST;
        }

        private static int turn(int numbers) {
            int turned = 0;
            for (int k = 0; k < PLACES; k++) {
                turned = turned << BITS | numberAt(numbers, k);
            }
            return turned;
        }
    }

    private static final class Child {
        static final int UNTOLD = 0;

        final int day;
        final int sex;
        final int mark;
        final Half half;
        final int ballot;
        final int woman;
        /** Its coming to the house, as the first of its moves: they go on by their days, then as told. */
        final Move coming;
        int moveCount;
        int mother = UNTOLD;
        int askers;

        Child(int day, int sex, int mark, Half half, int ballot, int woman) {
            this.day = day;
            this.sex = sex;
            this.mark = mark;
            this.half = half;
            this.ballot = ballot;
            this.woman = woman;
            this.coming = new Move(HOUSE, day, day);
        }

        boolean mayAsk(int who) {
            return (askers >> who & 1) != 0;
        }

        Move lastUpTo(int day) {
            Move last = coming;
            while (last.next != null && last.next.from <= day) {
                last = last.next;
            }
            return last;
        }

        int placeOn(int day, int q) {
            int at = NONE;
            for (Move m = coming; m != null && m.from <= day; m = m.next) {
                if (m.told <= q) {
                    at = m.place;
                }
            }
            return at;
        }

        int daysAt(int place, int firstDay, int lastDay, int q) {
            int days = 0;
            int at = NONE;
            int since = firstDay;
            for (Move m = coming; m != null && m.from <= lastDay; m = m.next) {
                if (m.told <= q) {
                    int left = Math.max(m.from, firstDay);
                    days += at == place ? left - since : 0;
                    at = m.place;
                    since = left;
                }
            }
            // With no day to look at the last day may be ahead of the first one.
            return at == place ? days + Math.max(lastDay + 1 - since, 0) : days;
        }
    }

    private static final class Move {
        final int place;
        final int from;
        final int told;
        Move next;

        Move(int place, int from, int told) {
            this.place = place;
            this.from = from;
            this.told = told;
        }
    }

    private static final class Nurse {
        private static final int BEDS_AT_FIRST = 2;

        int bedCount = BEDS_AT_FIRST;
        Look latest;
    }

    private static final class Look {
        final int day;
        final Look earlier;

        Look(int day, Look earlier) {
            this.day = day;
            this.earlier = earlier;
        }
    }

    private static final class Claim {
        final Half half;
        private final int first;
        private final int last;
        private final int sex;
        private final int mark;

        Claim(Half half, int first, int last, int sex, int mark) {
            this.half = half;
            this.first = first;
            this.last = last;
            this.sex = sex;
            this.mark = mark;
        }

        int agreeing(Child child) {
            int facts = within(child.day, first, last) ? 1 : 0;
            facts += child.sex == sex ? 1 : 0;
            facts += child.mark == mark ? 1 : 0;
            return facts;
        }

        int disagreeing(Child child) {
            int facts = within(child.day, first, last) ? 0 : 1;
            facts += sex != NONE && child.sex != sex ? 1 : 0;
            facts += mark != NONE && child.mark != mark ? 1 : 0;
            return facts;
        }
    }

    private static final class Text {
        final byte[] bytes = new byte[MOST_BYTES];
        int length;

        /** Bytes of 0 are left out. */
        void add(int more) {
            if (more != 0 && length < bytes.length) {
                bytes[length] = (byte) more;
                length++;
            }
        }

        int byteAt(int i) {
            return i >= 0 && i < length && i < bytes.length ? bytes[i] & 255 : NONE;
        }
    }

    /**
     * Goes through a text as the grammar of rules says, and tells both where it fails and whether
     * it holds of the values, so that there is one reading of a rule and no other.
     */
    private static final class Reader {
        static final int OFF = 0;
        static final int AGREEING = 1;
        static final int DISAGREEING = 2;
        static final int FITTING = 3;
        static final int DAYS_HERE = 4;

        private static final char[] LETTERS = {'o', 'f', 'w', 'c', 'd'};
        private static final int DEEPEST = 8;
        private static final int MOST_DIGITS = 4;

        final int[] values = new int[LETTERS.length];
        private Text text;
        private int at;
        private int failedAt;

        Reader(Text text) {
            this.text = text;
        }

        int faultOf(Text read) {
            holds(read);
            return failedAt;
        }

        /** An empty text fails too, so that nothing holds while there is no rule. */
        boolean holds(Text read) {
            text = read;
            at = 0;
            failedAt = NONE;
            boolean holds = tests(0);
            if (next() != NONE) {
                fail();
            }
            return holds && failedAt == NONE;
        }

        private boolean tests(int depth) {
            boolean holds = part(depth);
            for (int k = 0; k < MOST_BYTES && take('|'); k++) {
                // Read in any case: what a value decides may not decide how far the text is read.
                boolean other = part(depth);
                holds = holds || other;
            }
            return holds;
        }

        private boolean part(int depth) {
            boolean holds = unit(depth);
            for (int k = 0; k < MOST_BYTES && take('&'); k++) {
                boolean other = unit(depth);
                holds = holds && other;
            }
            return holds;
        }

        private boolean unit(int depth) {
            if (next() != '(') {
                return test();
            }
            if (depth >= DEEPEST) {
                fail();
                return false;
            }
            at++;
            boolean holds = tests(depth + 1);
            if (!take(')')) {
                fail();
            }
            return holds;
        }

        private boolean test() {
            int value = letterValue();
            if (take('=')) {
                return value == number();
            }
            if (take('<')) {
                return value < number();
            }
            if (take('>')) {
                return value > number();
            }
            fail();
            return false;
        }

        private int letterValue() {
            int letter = next();
            for (int k = 0; k < LETTERS.length; k++) {
                if (LETTERS[k] == letter) {
                    at++;
                    return values[k];
                }
            }
            fail();
            return 0;
        }

        private int number() {
            if (!isDigit(next())) {
                fail();
                return 0;
            }
            int number = 0;
            for (int k = 0; k < MOST_DIGITS && isDigit(text.byteAt(at)); k++) {
                number = 10 * number + text.byteAt(at) - '0';
                at++;
            }
            return number;
        }

        private static boolean isDigit(int letter) {
            return letter >= '0' && letter <= '9';
        }

        private boolean take(char wanted) {
            boolean there = next() == wanted;
            at += there ? 1 : 0;
            return there;
        }

        /** The next byte that is not a blank; NONE at the end, and behind a fault. */
        private int next() {
            while (at < text.length && text.byteAt(at) == ' ') {
                at++;
            }
            return failedAt == NONE ? text.byteAt(at) : NONE;
        }

        private void fail() {
            if (failedAt == NONE) {
                failedAt = at;
            }
        }
    }
}

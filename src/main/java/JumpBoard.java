/** A board for a long jump: jumpers with six rounds each, a record, and a limit for the wind. */
public final class JumpBoard {
    public static final int REFUSED = -1000;

    private static final int MOST_JUMPERS = 8;
    private static final int ROUNDS = 6;
    private static final int LEAST_BIB = 1;
    private static final int MOST_BIB = 999;

    private static final int NO_MARK = 0;
    private static final int MOST_MARK = 1200;
    private static final int LEAST_WIND = -99;
    private static final int NO_WIND = 100;

    private static final int MARKS = 0;
    private static final int WINDS = 1;

    private static final int LESS = 0;
    private static final int AT_MOST = 1;
    private static final int MORE = 2;
    private static final int AT_LEAST = 3;
    private static final int LIKE = 4;
    private static final int UNLIKE = 5;

    private int jumpers;
    private int recordMark;
    private int limitWind;
    private final int[] bibs;
    private final int[] jumped;

    // Rounds that have not been jumped always hold none, so no question has to ask how many have been.
    private final int[] marks;
    private final int[] winds;

    // Room for the marks of the legal rounds, the greatest first: made once, so that no question makes an array.
    private final int[] rows;

    public JumpBoard() {
        jumpers = 0;
        recordMark = NO_MARK;
        limitWind = NO_WIND;
        bibs = new int[MOST_JUMPERS];
        jumped = new int[MOST_JUMPERS];
        marks = new int[MOST_JUMPERS * ROUNDS];
        winds = new int[MOST_JUMPERS * ROUNDS];
        rows = new int[MOST_JUMPERS * ROUNDS];
        for (int i = 0; i < MOST_JUMPERS * ROUNDS; i++) {
            marks[i] = NO_MARK;
            winds[i] = NO_WIND;
        }
    }

    public int enter(int bib) {
        if (jumpers >= MOST_JUMPERS || bib < LEAST_BIB || bib > MOST_BIB || isBibTaken(bib)) {
            return REFUSED;
        }
        int jumper = jumpers;
        bibs[jumper] = bib;
        jumpers = jumper + 1;
        return jumper;
    }

    public int jump(int jumper, int mark, int wind) {
        if (!isJumper(jumper) || !isMark(mark) || !isWind(wind) || jumped[jumper] >= ROUNDS) {
            return REFUSED;
        }
        int round = jumped[jumper];
        marks[at(jumper, round)] = mark;
        winds[at(jumper, round)] = wind;
        jumped[jumper] = round + 1;
        return round;
    }

    public int undo(int jumper) {
        if (!isJumper(jumper) || jumped[jumper] <= 0) {
            return REFUSED;
        }
        int latest = jumped[jumper] - 1;
        marks[at(jumper, latest)] = NO_MARK;
        winds[at(jumper, latest)] = NO_WIND;
        jumped[jumper] = latest;
        return latest;
    }

    public int record(int mark) {
        if (!isMark(mark)) {
            return REFUSED;
        }
        int before = recordMark;
        recordMark = mark;
        return before;
    }

    public int limit(int wind) {
        if (!isWind(wind)) {
            return REFUSED;
        }
        int before = limitWind;
        limitWind = wind;
        return before;
    }

    public int value(int what, int jumper, int round) {
        if (!isWhat(what) || !isJumper(jumper) || !isRound(round)) {
            return REFUSED;
        }
        return valueOf(what, jumper, round);
    }

    public int fits(int how, int what, int jumper, int a, int b) {
        if (!isHow(how) || !isWhat(what) || !isJumper(jumper) || !isRound(a) || !isRound(b)) {
            return REFUSED;
        }
        return valueFits(how, what, valueOf(what, jumper, a), valueOf(what, jumper, b)) ? 1 : 0;
    }

    public int count(int how, int what, int jumper, int v) {
        if (!isQuestion(how, what, jumper, v)) {
            return REFUSED;
        }
        int found = 0;
        for (int round = 0; round < ROUNDS; round++) {
            if (valueFits(how, what, valueOf(what, jumper, round), v)) {
                found++;
            }
        }
        return found;
    }

    public int turned(int how, int what, int jumper, int v) {
        if (!isQuestion(how, what, jumper, v)) {
            return REFUSED;
        }
        int found = 0;
        for (int round = 0; round < ROUNDS; round++) {
            if (valueFits(how, what, v, valueOf(what, jumper, round))) {
                found++;
            }
        }
        return found;
    }

    public int longest(int how, int what, int jumper, int v) {
        if (!isQuestion(how, what, jumper, v)) {
            return REFUSED;
        }
        int most = 0;
        int length = 0;
        for (int round = 0; round < ROUNDS; round++) {
            length = valueFits(how, what, valueOf(what, jumper, round), v) ? 0 : length + 1;
            most = Math.max(most, length);
        }
        return most;
    }

    public int skip(int how, int what, int jumper, int from, int v) {
        if (!isQuestion(how, what, jumper, v) || !isRound(from)) {
            return REFUSED;
        }
        for (int round = from; round < ROUNDS; round++) {
            if (!valueFits(how, what, valueOf(what, jumper, round), v)) {
                return round;
            }
        }
        return ROUNDS;
    }

    public int pick(int how, int what, int jumper, int v) {
        if (!isQuestion(how, what, jumper, v)) {
            return REFUSED;
        }
        int held = v;
        for (int round = 0; round < ROUNDS; round++) {
            int next = valueOf(what, jumper, round);
            if (valueFits(how, what, next, held)) {
                held = next;
            }
        }
        return held;
    }

    public int best(int jumper) {
        if (!isJumper(jumper)) {
            return REFUSED;
        }
        return bestOf(jumper);
    }

    public int ahead(int a, int b) {
        if (!isJumper(a) || !isJumper(b)) {
            return REFUSED;
        }
        layOut(a);
        layOut(b);
        return isAhead(a, b) ? 1 : 0;
    }

    public int place(int jumper) {
        if (!isJumper(jumper)) {
            return REFUSED;
        }
        if (bestOf(jumper) == NO_MARK) {
            return 0;
        }
        layOutAll();
        int others = 0;
        for (int other = 0; other < jumpers; other++) {
            if (isAhead(other, jumper)) {
                others++;
            }
        }
        return others + 1;
    }

    public int order(int k) {
        if (k < 0 || k >= jumpers) {
            return REFUSED;
        }
        layOutAll();
        int found = 0;
        for (int jumper = 0; jumper < jumpers; jumper++) {
            if (howManyJumpBefore(jumper) == k) {
                found = jumper;
            }
        }
        return found;
    }

    public int verdict(int jumper, int round) {
        if (!isJumper(jumper) || !isRound(round)) {
            return REFUSED;
        }
        int mark = marks[at(jumper, round)];
        int wind = winds[at(jumper, round)];
        int sum = 0;
        sum += mark != NO_MARK ? 1 : 0;
        sum += wind != NO_WIND ? 2 : 0;
        sum += isLegal(jumper, round) ? 4 : 0;
        sum += valueFits(AT_LEAST, MARKS, mark, recordMark) ? 8 : 0;
        sum += valueFits(MORE, MARKS, mark, recordMark) ? 16 : 0;
        sum += valueFits(LIKE, MARKS, mark, recordMark) ? 32 : 0;
        sum += valueFits(AT_MOST, WINDS, wind, limitWind) ? 64 : 0;
        sum += beatsEarlierRounds(jumper, round) ? 128 : 0;
        return sum;
    }

    public int told(int what) {
        switch (what) {
            case 0:
                return jumpers;
            case 1:
                return howManyJumped();
            case 2:
                return howManyJumped() - howManyMarked();
            case 3:
                return howManyLegal();
            case 4:
                return recordMark;
            case 5:
                return limitWind;
            default:
                return REFUSED;
        }
    }

    private boolean isJumper(int jumper) {
        return jumper >= 0 && jumper < jumpers;
    }

    private static boolean isRound(int round) {
        return round >= 0 && round < ROUNDS;
    }

    private static boolean isWhat(int what) {
        return what == MARKS || what == WINDS;
    }

    private static boolean isHow(int how) {
        return how >= LESS && how <= UNLIKE;
    }

    private static boolean isMark(int mark) {
        return mark >= NO_MARK && mark <= MOST_MARK;
    }

    private static boolean isWind(int wind) {
        return wind >= LEAST_WIND && wind <= NO_WIND;
    }

    private boolean isQuestion(int how, int what, int jumper, int v) {
        return isHow(how) && isWhat(what) && isJumper(jumper) && (what == MARKS ? isMark(v) : isWind(v));
    }

    private boolean isBibTaken(int bib) {
        for (int jumper = 0; jumper < jumpers; jumper++) {
            if (bibs[jumper] == bib) {
                return true;
            }
        }
        return false;
    }

    private static int at(int jumper, int round) {
        return jumper * ROUNDS + round;
    }

    private int valueOf(int what, int jumper, int round) {
        return what == MARKS ? marks[at(jumper, round)] : winds[at(jumper, round)];
    }

    private static boolean isNone(int what, int v) {
        return v == (what == MARKS ? NO_MARK : NO_WIND);
    }

    private static boolean valueFits(int how, int what, int v, int other) {
        if (isNone(what, v) || isNone(what, other)) {
            return how == UNLIKE;
        }
        return numberFits(how, v, other);
    }

    private static boolean numberFits(int how, int v, int other) {
        switch (how) {
            case LESS:
                return v < other;
            case AT_MOST:
                return v <= other;
            case MORE:
                return v > other;
            case AT_LEAST:
                return v >= other;
            case LIKE:
                return v == other;
            default:
                return v != other;
        }
    }

    private boolean isLegal(int jumper, int round) {
        // Not MORE is no AT MOST: where the wind or the limit is none neither holds, and the round is legal.
        return marks[at(jumper, round)] != NO_MARK
            && !valueFits(MORE, WINDS, winds[at(jumper, round)], limitWind);
    }

    private int bestOf(int jumper) {
        int greatest = NO_MARK;
        for (int round = 0; round < ROUNDS; round++) {
            if (isLegal(jumper, round)) {
                greatest = Math.max(greatest, marks[at(jumper, round)]);
            }
        }
        return greatest;
    }

    private void layOutAll() {
        for (int jumper = 0; jumper < jumpers; jumper++) {
            layOut(jumper);
        }
    }

    private void layOut(int jumper) {
        for (int spot = 0; spot < ROUNDS; spot++) {
            rows[at(jumper, spot)] = NO_MARK;
        }
        for (int round = 0; round < ROUNDS; round++) {
            if (isLegal(jumper, round)) {
                putInRow(jumper, marks[at(jumper, round)]);
            }
        }
    }

    private void putInRow(int jumper, int mark) {
        int moving = mark;
        for (int spot = 0; spot < ROUNDS; spot++) {
            int standing = rows[at(jumper, spot)];
            if (moving > standing) {
                rows[at(jumper, spot)] = moving;
                moving = standing;
            }
        }
    }

    /** Asks the rows as they were last laid out. */
    private boolean isAhead(int a, int b) {
        for (int spot = 0; spot < ROUNDS; spot++) {
            int markOfA = rows[at(a, spot)];
            int markOfB = rows[at(b, spot)];
            // A row that has ended holds NO_MARK, which is below every mark: one comparison does for both cases.
            if (markOfA != markOfB) {
                return markOfA > markOfB;
            }
        }
        return false;
    }

    private int howManyJumpBefore(int jumper) {
        int before = 0;
        for (int other = 0; other < jumpers; other++) {
            if (jumpsBefore(other, jumper)) {
                before++;
            }
        }
        return before;
    }

    private boolean jumpsBefore(int a, int b) {
        // Those without a best need no rule of their own: their rows are empty, so all others are ahead of them.
        return isAhead(b, a) || (!isAhead(a, b) && a < b);
    }

    private boolean beatsEarlierRounds(int jumper, int round) {
        int mark = marks[at(jumper, round)];
        if (mark == NO_MARK) {
            return false;
        }
        for (int earlier = 0; earlier < round; earlier++) {
            if (valueFits(AT_LEAST, MARKS, marks[at(jumper, earlier)], mark)) {
                return false;
            }
        }
        return true;
    }

    private int howManyJumped() {
        int sum = 0;
        for (int jumper = 0; jumper < jumpers; jumper++) {
            sum += jumped[jumper];
        }
        return sum;
    }

    private int howManyMarked() {
        int sum = 0;
        for (int i = 0; i < marks.length; i++) {
            if (marks[i] != NO_MARK) {
                sum++;
            }
        }
        return sum;
    }

    private int howManyLegal() {
        int sum = 0;
        for (int jumper = 0; jumper < jumpers; jumper++) {
            for (int round = 0; round < ROUNDS; round++) {
                if (isLegal(jumper, round)) {
                    sum++;
                }
            }
        }
        return sum;
    }
}

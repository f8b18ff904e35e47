/** Each promise of the document by hand: ordinary inputs, the edges that it names, wrong inputs. */
public final class JumpBoardPromises {
    private static final int NO = JumpBoard.REFUSED;
    private static final int MIN = Integer.MIN_VALUE;
    private static final int MAX = Integer.MAX_VALUE;

    private static final int LESS = 0;
    private static final int AT_MOST = 1;
    private static final int MORE = 2;
    private static final int AT_LEAST = 3;
    private static final int LIKE = 4;
    private static final int UNLIKE = 5;

    private static final int[] NO_JUMPERS = {MIN, -1, 2, 7, 8, MAX};
    private static final int[] NO_ROUNDS = {MIN, -1, 6, 7, MAX};
    private static final int[] NO_WHATS = {MIN, -1, 2, MAX};
    private static final int[] NO_HOWS = {MIN, -1, 6, MAX};
    private static final int[] NO_MARKS = {MIN, -1, 1201, MAX};
    private static final int[] NO_WINDS = {MIN, -100, 101, MAX};

    private static String promise = "";
    private static int wrong = 0;

    public static void main(String[] args) {
        newObject();
        enter();
        jump();
        undo();
        record();
        limit();
        value();
        fits();
        fitsByNone();
        count();
        turned();
        longest();
        skip();
        pick();
        questionsRefused();
        best();
        ahead();
        place();
        order();
        verdict();
        verdictOfNone();
        told();
        refusedCallsChangeNothing();
        objectsAreApart();
        fullBoard();
        System.out.println(wrong == 0 ? "all promises hold" : wrong + " answers are not as due");
        if (wrong != 0) {
            System.exit(1);
        }
    }

    private static void due(String call, int got, int want) {
        if (got != want) {
            wrong++;
            System.out.println(promise + ": " + call + " answered " + got + ", due is " + want);
        }
    }

    /** A board with as many jumpers, of bibs 1, 2, .. */
    private static JumpBoard board(int jumpers) {
        JumpBoard x = new JumpBoard();
        for (int i = 0; i < jumpers; i++) {
            x.enter(i + 1);
        }
        return x;
    }

    /** Jumps of one jumper: mark, wind, mark, wind, .. */
    private static void jumps(JumpBoard x, int jumper, int... marksAndWinds) {
        for (int i = 0; i + 1 < marksAndWinds.length; i += 2) {
            due("jump " + i / 2, x.jump(jumper, marksAndWinds[i], marksAndWinds[i + 1]), i / 2);
        }
    }

    /** Two jumpers; the first has marks and winds of all kinds and a round that is not jumped. */
    private static JumpBoard mixed() {
        JumpBoard x = board(2);
        jumps(x, 0, 500, 10, 0, 0, 620, 100, 500, -5, 0, 100);
        return x;
    }

    private static void newObject() {
        promise = "1";
        JumpBoard x = new JumpBoard();
        due("REFUSED", JumpBoard.REFUSED, -1000);
        due("told(0)", x.told(0), 0);
        due("told(1)", x.told(1), 0);
        due("told(2)", x.told(2), 0);
        due("told(3)", x.told(3), 0);
        due("told(4)", x.told(4), 0);
        due("told(5)", x.told(5), 100);
        due("value", x.value(0, 0, 0), NO);
        due("jump", x.jump(0, 500, 0), NO);
        due("order(0)", x.order(0), NO);
        due("best(0)", x.best(0), NO);
        due("limit", x.limit(0), 100);
        due("record", x.record(1), 0);
    }

    private static void enter() {
        promise = "2";
        JumpBoard x = new JumpBoard();
        for (int bib : new int[] {MIN, -1, 0, 1000, MAX}) {
            due("enter(" + bib + ")", x.enter(bib), NO);
        }
        due("enter(1)", x.enter(1), 0);
        due("enter(1)", x.enter(1), NO);
        due("enter(999)", x.enter(999), 1);
        due("enter(999)", x.enter(999), NO);
        due("enter(1)", x.enter(1), NO);
        due("told(0)", x.told(0), 2);
        for (int i = 2; i < 8; i++) {
            due("enter " + i, x.enter(100 + i), i);
        }
        due("a ninth", x.enter(500), NO);
        due("told(0)", x.told(0), 8);
        due("the eighth jumps", x.jump(7, 400, 0), 0);
        due("told(1)", x.told(1), 1);
        due("value of an entered one", x.value(0, 6, 0), 0);
        due("value of an entered one", x.value(1, 6, 0), 100);
    }

    private static void jump() {
        promise = "3";
        JumpBoard x = board(2);
        for (int jumper : NO_JUMPERS) {
            due("jump(" + jumper + ")", x.jump(jumper, 500, 0), NO);
        }
        for (int mark : NO_MARKS) {
            due("mark " + mark, x.jump(0, mark, 0), NO);
        }
        for (int wind : NO_WINDS) {
            due("wind " + wind, x.jump(0, 500, wind), NO);
        }
        due("told(1)", x.told(1), 0);
        jumps(x, 0, 1, -99, 1200, 99, 0, 0, 700, 100, 0, 100, 2, 1);
        due("a seventh", x.jump(0, 500, 0), NO);
        int[] marks = {1, 1200, 0, 700, 0, 2};
        int[] winds = {-99, 99, 0, 100, 100, 1};
        for (int round = 0; round < 6; round++) {
            due("mark of " + round, x.value(0, 0, round), marks[round]);
            due("wind of " + round, x.value(1, 0, round), winds[round]);
            due("mark of the other", x.value(0, 1, round), 0);
            due("wind of the other", x.value(1, 1, round), 100);
        }
        due("the other's first", x.jump(1, 600, 5), 0);
    }

    private static void undo() {
        promise = "4";
        JumpBoard x = board(2);
        for (int jumper : NO_JUMPERS) {
            due("undo(" + jumper + ")", x.undo(jumper), NO);
        }
        due("undo of none", x.undo(0), NO);
        jumps(x, 0, 500, 1, 510, 2, 520, 3, 530, 4, 540, 5, 550, 6);
        due("undo of the other", x.undo(1), NO);
        due("undo", x.undo(0), 5);
        due("mark", x.value(0, 0, 5), 0);
        due("wind", x.value(1, 0, 5), 100);
        due("mark before", x.value(0, 0, 4), 540);
        due("verdict", x.verdict(0, 5), 0);
        due("jump again", x.jump(0, 610, 7), 5);
        due("mark", x.value(0, 0, 5), 610);
        for (int left = 5; left >= 0; left--) {
            due("undo to " + left, x.undo(0), left);
        }
        due("undo of none", x.undo(0), NO);
        due("told(1)", x.told(1), 0);
        due("told(2)", x.told(2), 0);
        due("told(3)", x.told(3), 0);
        due("best", x.best(0), 0);
        due("told(0)", x.told(0), 2);
    }

    private static void record() {
        promise = "5";
        JumpBoard x = new JumpBoard();
        due("record(895)", x.record(895), 0);
        for (int mark : NO_MARKS) {
            due("record(" + mark + ")", x.record(mark), NO);
        }
        due("record(1200)", x.record(1200), 895);
        due("record(1)", x.record(1), 1200);
        due("record(0)", x.record(0), 1);
        due("told(4)", x.told(4), 0);
        due("record(100)", x.record(100), 0);
        due("told(4)", x.told(4), 100);
        due("told(5)", x.told(5), 100);
    }

    private static void limit() {
        promise = "6";
        JumpBoard x = new JumpBoard();
        due("limit(20)", x.limit(20), 100);
        for (int wind : NO_WINDS) {
            due("limit(" + wind + ")", x.limit(wind), NO);
        }
        due("limit(-99)", x.limit(-99), 20);
        due("limit(0)", x.limit(0), -99);
        due("limit(99)", x.limit(99), 0);
        due("limit(100)", x.limit(100), 99);
        due("told(5)", x.told(5), 100);
        due("told(4)", x.told(4), 0);
    }

    private static void value() {
        promise = "7";
        JumpBoard x = mixed();
        due("mark", x.value(0, 0, 0), 500);
        due("wind", x.value(1, 0, 0), 10);
        due("no mark", x.value(0, 0, 1), 0);
        due("wind 0", x.value(1, 0, 1), 0);
        due("no wind", x.value(1, 0, 2), 100);
        due("not jumped", x.value(0, 0, 5), 0);
        due("not jumped", x.value(1, 0, 5), 100);
        for (int what : NO_WHATS) {
            due("what " + what, x.value(what, 0, 0), NO);
        }
        for (int jumper : NO_JUMPERS) {
            due("jumper " + jumper, x.value(0, jumper, 0), NO);
        }
        for (int round : NO_ROUNDS) {
            due("round " + round, x.value(1, 0, round), NO);
            due("round " + round, x.value(0, 1, round), NO);
        }
    }

    private static void fits() {
        promise = "8";
        JumpBoard x = board(2);
        jumps(x, 1, 100, -1, 101, 0, 100, -1);
        int[] lesser = {1, 1, 0, 0, 0, 1};
        int[] greater = {0, 0, 1, 1, 0, 1};
        int[] same = {0, 1, 0, 1, 1, 0};
        for (int how = LESS; how <= UNLIKE; how++) {
            for (int what = 0; what < 2; what++) {
                due("lesser by " + how, x.fits(how, what, 1, 0, 1), lesser[how]);
                due("greater by " + how, x.fits(how, what, 1, 1, 0), greater[how]);
                due("same by " + how, x.fits(how, what, 1, 0, 2), same[how]);
                due("itself by " + how, x.fits(how, what, 1, 1, 1), same[how]);
            }
        }
        for (int how : NO_HOWS) {
            due("how " + how, x.fits(how, 0, 0, 0, 1), NO);
        }
        for (int what : NO_WHATS) {
            due("what " + what, x.fits(UNLIKE, what, 0, 0, 1), NO);
        }
        for (int jumper : NO_JUMPERS) {
            due("jumper " + jumper, x.fits(UNLIKE, 0, jumper, 0, 1), NO);
        }
        for (int round : NO_ROUNDS) {
            due("a " + round, x.fits(UNLIKE, 0, 0, round, 1), NO);
            due("b " + round, x.fits(UNLIKE, 1, 0, 0, round), NO);
        }
    }

    private static void fitsByNone() {
        promise = "8, none";
        JumpBoard x = board(1);
        jumps(x, 0, 0, 100, 1, -99, 1200, 99, 100, 0);
        for (int how = LESS; how <= UNLIKE; how++) {
            int want = how == UNLIKE ? 1 : 0;
            for (int what = 0; what < 2; what++) {
                for (int round = 0; round < 6; round++) {
                    due("none by " + how + " of " + round, x.fits(how, what, 0, 0, round), want);
                    due(round + " by " + how + " of none", x.fits(how, what, 0, round, 0), want);
                    due("not jumped by " + how + " of " + round, x.fits(how, what, 0, 5, round), want);
                }
            }
        }
        due("mark 100 is a number", x.fits(LIKE, 0, 0, 3, 3), 1);
        due("wind 0 is a number", x.fits(LIKE, 1, 0, 3, 3), 1);
    }

    private static void count() {
        promise = "9";
        JumpBoard x = mixed();
        int[] of500 = {0, 2, 1, 3, 2, 4};
        int[] of510 = {2, 2, 1, 1, 0, 6};
        int[] ofNone = {0, 0, 0, 0, 0, 6};
        int[] ofWind0 = {1, 2, 1, 2, 1, 5};
        for (int how = LESS; how <= UNLIKE; how++) {
            due("500 by " + how, x.count(how, 0, 0, 500), of500[how]);
            due("510 by " + how, x.count(how, 0, 0, 510), of510[how]);
            due("no mark by " + how, x.count(how, 0, 0, 0), ofNone[how]);
            due("wind 0 by " + how, x.count(how, 1, 0, 0), ofWind0[how]);
            due("no wind by " + how, x.count(how, 1, 0, 100), ofNone[how]);
            due("without rounds by " + how, x.count(how, 0, 1, 500), how == UNLIKE ? 6 : 0);
        }
    }

    private static void turned() {
        promise = "10";
        JumpBoard x = mixed();
        int[] of500 = {1, 3, 0, 2, 2, 4};
        int[] of510 = {1, 1, 2, 2, 0, 6};
        int[] ofNone = {0, 0, 0, 0, 0, 6};
        int[] ofWind0 = {1, 2, 1, 2, 1, 5};
        int[] ofWind5 = {1, 1, 2, 2, 0, 6};
        for (int how = LESS; how <= UNLIKE; how++) {
            due("500 by " + how, x.turned(how, 0, 0, 500), of500[how]);
            due("510 by " + how, x.turned(how, 0, 0, 510), of510[how]);
            due("no mark by " + how, x.turned(how, 0, 0, 0), ofNone[how]);
            due("wind 0 by " + how, x.turned(how, 1, 0, 0), ofWind0[how]);
            due("wind 5 by " + how, x.turned(how, 1, 0, 5), ofWind5[how]);
            due("no wind by " + how, x.turned(how, 1, 0, 100), ofNone[how]);
        }
    }

    private static void longest() {
        promise = "11";
        JumpBoard x = mixed();
        int[] of500 = {6, 2, 3, 2, 2, 1};
        int[] ofNone = {6, 6, 6, 6, 6, 0};
        int[] ofWind0 = {3, 2, 5, 4, 4, 1};
        for (int how = LESS; how <= UNLIKE; how++) {
            due("500 by " + how, x.longest(how, 0, 0, 500), of500[how]);
            due("no mark by " + how, x.longest(how, 0, 0, 0), ofNone[how]);
            due("wind 0 by " + how, x.longest(how, 1, 0, 0), ofWind0[how]);
            due("no wind by " + how, x.longest(how, 1, 0, 100), ofNone[how]);
            due("without rounds by " + how, x.longest(how, 0, 1, 500), how == UNLIKE ? 0 : 6);
        }
        JumpBoard y = board(1);
        jumps(y, 0, 500, 0, 500, 0, 500, 0, 400, 0, 500, 0, 500, 0);
        due("the first row is the longest", y.longest(LESS, 0, 0, 450), 3);
    }

    private static void skip() {
        promise = "12";
        JumpBoard x = mixed();
        due("from the first", x.skip(AT_LEAST, 0, 0, 0, 500), 1);
        due("at once", x.skip(AT_LEAST, 0, 0, 1, 500), 1);
        due("past two", x.skip(AT_LEAST, 0, 0, 2, 500), 4);
        due("none isn't less", x.skip(LESS, 0, 0, 4, 1200), 4);
        due("not jumped", x.skip(AT_LEAST, 0, 0, 5, 1), 5);
        due("unlike 500", x.skip(UNLIKE, 0, 0, 1, 500), 3);
        due("unlike 500, no more", x.skip(UNLIKE, 0, 0, 4, 500), 6);
        due("unlike none", x.skip(UNLIKE, 0, 0, 0, 0), 6);
        due("unlike wind 0", x.skip(UNLIKE, 1, 0, 0, 0), 1);
        due("unlike no wind", x.skip(UNLIKE, 1, 0, 0, 100), 6);
        JumpBoard y = board(1);
        jumps(y, 0, 500, 0, 500, 0, 500, 0, 500, 0, 500, 0, 500, 1);
        due("all fit", y.skip(LIKE, 0, 0, 0, 500), 6);
        due("the last one doesn't", y.skip(LIKE, 1, 0, 0, 0), 5);
    }

    private static void pick() {
        promise = "13";
        JumpBoard x = board(1);
        jumps(x, 0, 500, 10, 0, 100, 620, -5, 480, 0, 620, 10);
        due("less", x.pick(LESS, 0, 0, 1200), 480);
        due("less than 480", x.pick(LESS, 0, 0, 480), 480);
        due("at most", x.pick(AT_MOST, 0, 0, 490), 480);
        due("more", x.pick(MORE, 0, 0, 1), 620);
        due("more than 700", x.pick(MORE, 0, 0, 700), 700);
        due("at least", x.pick(AT_LEAST, 1, 0, -99), 10);
        due("less wind", x.pick(LESS, 1, 0, 99), -5);
        due("like", x.pick(LIKE, 0, 0, 500), 500);
        due("like none", x.pick(LIKE, 0, 0, 0), 0);
        due("more than none", x.pick(MORE, 0, 0, 0), 0);
        due("less than no wind", x.pick(LESS, 1, 0, 100), 100);
        due("unlike ends in none", x.pick(UNLIKE, 0, 0, 500), 0);
        due("unlike ends in no wind", x.pick(UNLIKE, 1, 0, 0), 100);
        x.jump(0, 620, 10);
        due("unlike, none is followed by all", x.pick(UNLIKE, 0, 0, 620), 620);
        JumpBoard y = board(1);
        jumps(y, 0, 500, 5, 510, 5, 500, 6, 0, 100, 0, 100, 300, -9);
        due("unlike goes on from none", y.pick(UNLIKE, 0, 0, 500), 300);
        due("unlike goes on from no wind", y.pick(UNLIKE, 1, 0, 5), -9);
        due("what is held counts, not v", y.pick(MORE, 0, 0, 505), 510);
    }

    private static int ask(JumpBoard x, int question, int how, int what, int jumper, int v) {
        switch (question) {
            case 0:
                return x.count(how, what, jumper, v);
            case 1:
                return x.turned(how, what, jumper, v);
            case 2:
                return x.longest(how, what, jumper, v);
            case 3:
                return x.pick(how, what, jumper, v);
            default:
                return x.skip(how, what, jumper, 0, v);
        }
    }

    private static void questionsRefused() {
        promise = "9 to 13, refused";
        JumpBoard x = mixed();
        for (int question = 0; question < 5; question++) {
            for (int how : NO_HOWS) {
                due(question + " how " + how, ask(x, question, how, 0, 0, 500), NO);
            }
            for (int what : NO_WHATS) {
                due(question + " what " + what, ask(x, question, UNLIKE, what, 0, 50), NO);
            }
            for (int jumper : NO_JUMPERS) {
                due(question + " jumper " + jumper, ask(x, question, UNLIKE, 0, jumper, 500), NO);
            }
            for (int mark : NO_MARKS) {
                due(question + " mark " + mark, ask(x, question, UNLIKE, 0, 0, mark), NO);
            }
            for (int wind : NO_WINDS) {
                due(question + " wind " + wind, ask(x, question, UNLIKE, 1, 0, wind), NO);
            }
        }
        for (int round : NO_ROUNDS) {
            due("skip from " + round, x.skip(UNLIKE, 0, 0, round, 500), NO);
        }
        due("mark 1200", x.count(AT_MOST, 0, 0, 1200), 3);
        due("mark 1", x.count(AT_LEAST, 0, 0, 1), 3);
        due("wind -99", x.count(AT_LEAST, 1, 0, -99), 3);
        due("wind 99", x.count(AT_MOST, 1, 0, 99), 3);
    }

    private static void best() {
        promise = "14";
        JumpBoard x = board(2);
        for (int jumper : NO_JUMPERS) {
            due("best(" + jumper + ")", x.best(jumper), NO);
        }
        due("without rounds", x.best(0), 0);
        jumps(x, 0, 0, 0, 800, 21, 790, 20, 780, -5, 770, 100);
        jumps(x, 1, 0, 5, 0, 100);
        due("without a limit", x.best(0), 800);
        due("without marks", x.best(1), 0);
        x.limit(20);
        due("wind 20 is not more than 20", x.best(0), 790);
        x.limit(19);
        due("limit 19", x.best(0), 780);
        x.limit(0);
        due("limit 0", x.best(0), 780);
        x.limit(-6);
        due("no wind is legal", x.best(0), 770);
        x.undo(0);
        due("none is legal", x.best(0), 0);
        x.limit(100);
        due("limit none", x.best(0), 800);
    }

    private static void ahead() {
        promise = "15";
        JumpBoard x = board(5);
        jumps(x, 0, 700, 0, 800, 0, 750, 0);
        jumps(x, 1, 800, 0, 0, 0, 750, 0);
        jumps(x, 2, 750, 0, 700, 100, 800, -9);
        jumps(x, 3, 801, 30);
        due("longer row", x.ahead(0, 1), 1);
        due("shorter row", x.ahead(1, 0), 0);
        due("same rows", x.ahead(0, 2), 0);
        due("same rows", x.ahead(2, 0), 0);
        due("itself", x.ahead(0, 0), 0);
        due("greater at first", x.ahead(3, 0), 1);
        due("less at first", x.ahead(0, 3), 0);
        due("a mark where the row has ended", x.ahead(1, 4), 1);
        due("an empty row", x.ahead(4, 1), 0);
        due("an empty row, itself", x.ahead(4, 4), 0);
        x.limit(29);
        due("not legal any more", x.ahead(3, 0), 0);
        due("not legal any more", x.ahead(0, 3), 1);
        due("both rows are empty", x.ahead(3, 4), 0);
        due("both rows are empty", x.ahead(4, 3), 0);
        x.limit(-1);
        due("800 alone against 700 alone", x.ahead(2, 0), 1);
        for (int jumper : new int[] {MIN, -1, 5, 8, MAX}) {
            due("a " + jumper, x.ahead(jumper, 0), NO);
            due("b " + jumper, x.ahead(0, jumper), NO);
        }
        aheadAtTheLastMark();
    }

    private static void aheadAtTheLastMark() {
        JumpBoard x = board(3);
        jumps(x, 0, 600, 0, 601, 0, 602, 0, 603, 0, 604, 0, 500, 0);
        jumps(x, 1, 501, 0, 604, 0, 603, 0, 602, 0, 601, 0, 600, 0);
        jumps(x, 2, 604, 0, 604, 0);
        due("sixth mark", x.ahead(1, 0), 1);
        due("sixth mark", x.ahead(0, 1), 0);
        due("the same mark twice", x.ahead(2, 0), 1);
        due("the same mark twice", x.ahead(0, 2), 0);
    }

    private static void place() {
        promise = "16";
        JumpBoard x = board(6);
        jumps(x, 0, 700, 0);
        jumps(x, 1, 800, 0, 100, 0);
        jumps(x, 2, 700, 0);
        jumps(x, 3, 800, 0);
        jumps(x, 5, 900, 50);
        int[] places = {4, 2, 4, 3, 0, 1};
        int[] placesByLimit = {3, 1, 3, 2, 0, 0};
        for (int jumper = 0; jumper < 6; jumper++) {
            due("place(" + jumper + ")", x.place(jumper), places[jumper]);
        }
        x.limit(49);
        for (int jumper = 0; jumper < 6; jumper++) {
            due("by the limit, place(" + jumper + ")", x.place(jumper), placesByLimit[jumper]);
        }
        for (int jumper : new int[] {MIN, -1, 6, 8, MAX}) {
            due("place(" + jumper + ")", x.place(jumper), NO);
        }
    }

    private static void order() {
        promise = "17";
        JumpBoard x = board(8);
        jumps(x, 0, 800, 0);
        jumps(x, 1, 0, 0);
        jumps(x, 2, 700, 0);
        jumps(x, 3, 800, 0);
        jumps(x, 4, 900, 50);
        jumps(x, 6, 700, 0, 10, 0);
        jumps(x, 7, 700, 0);
        int[] order = {1, 5, 2, 7, 6, 0, 3, 4};
        int[] orderByLimit = {1, 4, 5, 2, 7, 6, 0, 3};
        for (int k = 0; k < 8; k++) {
            due("order(" + k + ")", x.order(k), order[k]);
        }
        x.limit(49);
        for (int k = 0; k < 8; k++) {
            due("by the limit, order(" + k + ")", x.order(k), orderByLimit[k]);
        }
        for (int k : new int[] {MIN, -1, 8, MAX}) {
            due("order(" + k + ")", x.order(k), NO);
        }
        JumpBoard y = board(3);
        for (int k = 0; k < 3; k++) {
            due("without rounds, order(" + k + ")", y.order(k), k);
        }
        due("order(3) of three", y.order(3), NO);
    }

    private static void verdict() {
        promise = "18";
        JumpBoard x = board(2);
        jumps(x, 0, 700, 20, 700, 21, 701, 100, 0, -3, 699, 19, 800, 0);
        int[] bare = {1 + 2 + 4 + 128, 1 + 2 + 4, 1 + 4 + 128, 2, 1 + 2 + 4, 1 + 2 + 4 + 128};
        for (int round = 0; round < 6; round++) {
            due("no record, no limit, round " + round, x.verdict(0, round), bare[round]);
        }
        x.record(700);
        x.limit(20);
        int[] full = {1 + 2 + 4 + 8 + 32 + 64 + 128, 1 + 2 + 8 + 32, 1 + 4 + 8 + 16 + 128, 2 + 64,
            1 + 2 + 4 + 64, 1 + 2 + 4 + 8 + 16 + 64 + 128};
        for (int round = 0; round < 6; round++) {
            due("round " + round, x.verdict(0, round), full[round]);
            due("not jumped, round " + round, x.verdict(1, round), 0);
        }
        for (int jumper : NO_JUMPERS) {
            due("jumper " + jumper, x.verdict(jumper, 0), NO);
        }
        for (int round : NO_ROUNDS) {
            due("round " + round, x.verdict(0, round), NO);
            due("round " + round, x.verdict(1, round), NO);
        }
    }

    private static void verdictOfNone() {
        promise = "18, none";
        JumpBoard x = board(1);
        jumps(x, 0, 0, 100, 500, 100, 600, 50, 550, 0);
        x.limit(0);
        due("neither", x.verdict(0, 0), 0);
        due("none ahead of it is not at least its own", x.verdict(0, 1), 1 + 4 + 128);
        due("more than the limit", x.verdict(0, 2), 1 + 2 + 128);
        due("a round that is not legal counts, too", x.verdict(0, 3), 1 + 2 + 4 + 64);
        JumpBoard y = board(1);
        jumps(y, 0, 100, 0, 100, 0);
        y.record(100);
        due("a mark of 100 is no none", y.verdict(0, 0), 1 + 2 + 4 + 8 + 32 + 128);
        due("a mark of 100 ahead of it is no none", y.verdict(0, 1), 1 + 2 + 4 + 8 + 32);
    }

    private static void told() {
        promise = "19";
        JumpBoard x = board(3);
        jumps(x, 0, 500, 20, 0, 0, 510, 100, 0, 100);
        jumps(x, 2, 520, 21, 530, -1);
        x.record(895);
        due("jumpers", x.told(0), 3);
        due("jumped", x.told(1), 6);
        due("without a mark", x.told(2), 2);
        due("legal without a limit", x.told(3), 4);
        due("record", x.told(4), 895);
        due("no limit", x.told(5), 100);
        x.limit(20);
        due("legal by 20", x.told(3), 3);
        due("limit", x.told(5), 20);
        x.limit(-2);
        due("legal by -2", x.told(3), 1);
        due("limit", x.told(5), -2);
        x.undo(0);
        due("jumped after undo", x.told(1), 5);
        due("without a mark after undo", x.told(2), 1);
        for (int what : new int[] {MIN, -1, 6, MAX}) {
            due("told(" + what + ")", x.told(what), NO);
        }
    }

    private static void refusedCallsChangeNothing() {
        promise = "refused";
        JumpBoard x = mixed();
        x.record(600);
        x.limit(5);
        int[] before = state(x);
        x.enter(1);
        x.enter(0);
        x.enter(1000);
        x.jump(2, 500, 0);
        x.jump(-1, 500, 0);
        x.jump(0, 1201, 0);
        x.jump(0, 500, 101);
        x.jump(1, -1, 0);
        x.jump(1, 500, -100);
        x.undo(1);
        x.undo(2);
        x.record(1201);
        x.record(-1);
        x.limit(101);
        x.limit(-100);
        int[] after = state(x);
        for (int i = 0; i < before.length; i++) {
            due("state " + i, after[i], before[i]);
        }
        due("the next round", x.jump(0, 640, 5), 5);
        due("the next jumper", x.enter(3), 2);
    }

    private static void objectsAreApart() {
        promise = "two objects";
        JumpBoard x = mixed();
        int[] before = state(x);
        JumpBoard y = board(2);
        jumps(y, 0, 333, 3);
        y.record(444);
        y.limit(4);
        int[] after = state(x);
        for (int i = 0; i < before.length; i++) {
            due("state " + i, after[i], before[i]);
        }
    }

    /** Each call on the last jumper of a board on which nothing is left free. */
    private static void fullBoard() {
        promise = "full board";
        JumpBoard x = board(8);
        for (int jumper = 0; jumper < 8; jumper++) {
            jumps(x, jumper, 600, 1, 600, 1, 600, 1, 600, 1, 600, 1, 600 + jumper, 1);
        }
        x.limit(1);
        x.record(607);
        due("enter", x.enter(9), NO);
        due("jump", x.jump(7, 500, 0), NO);
        due("value", x.value(0, 7, 5), 607);
        due("fits", x.fits(MORE, 0, 7, 5, 0), 1);
        due("count", x.count(AT_LEAST, 0, 7, 600), 6);
        due("turned", x.turned(AT_LEAST, 0, 7, 607), 6);
        due("longest, all fit", x.longest(LIKE, 1, 7, 1), 0);
        due("longest, none fits", x.longest(LIKE, 1, 7, 2), 6);
        due("skip, all fit", x.skip(LIKE, 1, 7, 0, 1), 6);
        due("skip, all fit, from the last", x.skip(LIKE, 1, 7, 5, 1), 6);
        due("pick", x.pick(MORE, 0, 7, 1), 607);
        due("best", x.best(7), 607);
        due("ahead", x.ahead(7, 6), 1);
        due("ahead of itself", x.ahead(7, 7), 0);
        due("verdict", x.verdict(7, 5), 1 + 2 + 4 + 8 + 32 + 64 + 128);
        for (int jumper = 0; jumper < 8; jumper++) {
            due("place(" + jumper + ")", x.place(jumper), 8 - jumper);
            due("order(" + jumper + ")", x.order(jumper), jumper);
        }
        int[] told = {8, 48, 0, 48, 607, 1};
        for (int what = 0; what < 6; what++) {
            due("told(" + what + ")", x.told(what), told[what]);
        }
        due("undo", x.undo(7), 5);
    }

    private static int[] state(JumpBoard x) {
        int[] all = new int[6 + 2 * 2 * 6];
        for (int what = 0; what < 6; what++) {
            all[what] = x.told(what);
        }
        for (int i = 0; i < 24; i++) {
            all[6 + i] = x.value(i / 12, i / 6 % 2, i % 6);
        }
        return all;
    }
}

import java.util.function.IntUnaryOperator;

/**
 * Each sentence of the document that names an edge, with a test of its own: the last that is taken and the first that
 * is refused on each side, the numbers between them, the least and the greatest int, none, empty, full.
 */
public final class JumpBoardEdges {
    private static final int NO = JumpBoard.REFUSED;
    private static final int MIN = Integer.MIN_VALUE;
    private static final int MAX = Integer.MAX_VALUE;

    private static final int LESS = 0;
    private static final int AT_MOST = 1;
    private static final int MORE = 2;
    private static final int AT_LEAST = 3;
    private static final int LIKE = 4;
    private static final int UNLIKE = 5;

    private static final int NO_MARK = 0;
    private static final int NO_WIND = 100;

    private static String sentence = "";
    private static int sentences = 0;
    private static int wrong = 0;

    public static void main(String[] args) {
        terms();
        termsOfFits();
        termsOfRows();
        changingCalls();
        questions();
        questionsOfRounds();
        standings();
        verdicts();
        emptyAndFull();
        System.out.println(wrong == 0 ? "all " + sentences + " sentences hold" : wrong + " answers are not as due");
        if (wrong != 0) {
            System.exit(1);
        }
    }

    private static void terms() {
        jumpersAreNumberedAsTheyCome();
        atMostEightJumpers();
        theFirstSoManyRoundsAreJumped();
        aRoundNotJumpedHasNeither();
        aMarkThatIsNoneIs0();
        aWindThatIsNoneIs100();
        aMarkOf100AndAWindOf0AreNumbers();
        whatIs0ForMarksAnd1ForWinds();
    }

    private static void termsOfFits() {
        fitsAsNumbersDo();
        oneNoneFitsByUnlikeAlone();
        twoNonesFitByUnlikeAlone();
    }

    private static void termsOfRows() {
        legalNeedsAMark();
        legalUpToTheLimit();
        legalIfTheWindIsNone();
        legalIfTheLimitIsNone();
        theBestIsTheGreatestLegalMark();
        theBestIsNoneWithoutALegalRound();
        rowsDifferAtEachPlace();
        rowsEndAtEachPlace();
        nobodyIsAheadOfItself();
        neitherIsAheadWhereRowsAreTheSame();
        rowsAreOfLegalRoundsAlone();
    }

    private static void changingCalls() {
        aNewObject();
        aJumperComesWithNoRoundJumped();
        theBibIs1To999();
        noJumperHasTheBib();
        aNinthIsRefused();
        theMarkOfAJumpIs0To1200();
        theWindOfAJumpIsMinus99To100();
        aSeventhRoundIsRefused();
        noSuchJumperToJumpOrUndo();
        undoTellsHowManyHaveBeen();
        undoOfNoneIsRefused();
        aRoundThatIsUndoneIsJumpedAnew();
        theRecordIs0To1200();
        theRecordWas();
        theLimitIsMinus99To100();
        theLimitWas();
    }

    private static void questions() {
        noSuchWhat();
        noSuchHow();
        noSuchRound();
        noSuchJumper();
        aMarkToCompareIs0To1200();
        aWindToCompareIsMinus99To100();
    }

    private static void questionsOfRounds() {
        fitsOfARoundAndItself();
        countsAllSixRounds();
        turnedIsNotCount();
        longestIsNoneWhereAllFit();
        longestIsSixWhereNoneFits();
        longestAtEachPlace();
        skipAnswers6IfThereIsNone();
        skipStartsAtItsRound();
        pickHoldsVAtFirst();
        pickGoesThroughAllRounds();
        pickHoldsANone();
    }

    private static void standings() {
        placeIs0WithoutABest();
        placesOfEight();
        theSamePlaceForTheSameRows();
        orderOfThoseWithoutABest();
        orderOfTheOthers();
        orderByTheLesserNumber();
        orderIsRefusedFromHowManyOn();
    }

    private static void verdicts() {
        verdict1IfItHasAMark();
        verdict2IfItHasAWind();
        verdict4IfItIsLegal();
        verdict8To32ByTheRecord();
        verdict64ByTheLimit();
        verdict128IfNoneAheadIsAtLeastIt();
        verdict128LooksAheadAlone();
        verdict128AsksForAMarkNotForALegalOne();
        toldOfEach();
        toldOfAnotherWhat();
    }

    private static void emptyAndFull() {
        withoutJumpersEachQuestionIsRefused();
        withoutJumpersTheRestIsTaken();
        withEightTheLastIsTaken();
        withEightTheNextIsRefused();
        a512thCall();
    }

    // What the tests are made with.

    private static void sentence(String words) {
        sentence = words;
        sentences++;
    }

    private static void due(String call, int got, int want) {
        if (got != want) {
            wrong++;
            System.out.println(sentence + ": " + call + " answered " + got + ", due is " + want);
        }
    }

    private static JumpBoard board(int jumpers) {
        JumpBoard x = new JumpBoard();
        for (int i = 0; i < jumpers; i++) {
            x.enter(10 + i);
        }
        return x;
    }

    private static JumpBoard withMarks(int... marks) {
        JumpBoard x = board(1);
        marks(x, 0, marks);
        return x;
    }

    private static void marks(JumpBoard x, int jumper, int... marks) {
        for (int mark : marks) {
            x.jump(jumper, mark, NO_WIND);
        }
    }

    private static JumpBoard withWinds(int... winds) {
        JumpBoard x = board(1);
        for (int wind : winds) {
            x.jump(0, NO_MARK, wind);
        }
        return x;
    }

    /** One jumper with one round, that has this mark and this wind, and this limit. */
    private static JumpBoard oneRound(int mark, int wind, int limit) {
        JumpBoard x = board(1);
        x.jump(0, mark, wind);
        x.limit(limit);
        return x;
    }

    /** Each number from far below the least to far above the most, and the ends of int, on a new board each time. */
    private static void takenFromTo(String call, int least, int most, IntUnaryOperator ask) {
        for (int v = -1500; v <= 1500; v++) {
            boolean refused = ask.applyAsInt(v) == NO;
            due(call + " of " + v + ", refused", refused ? 1 : 0, v < least || v > most ? 1 : 0);
        }
        for (int v : new int[] {MIN, MIN + 1, MIN + least, MIN + 100, MAX - 99, MAX - 1, MAX}) {
            due(call + " of " + v, ask.applyAsInt(v), NO);
        }
    }

    // Terms.

    private static void jumpersAreNumberedAsTheyCome() {
        sentence("JUMPERS are numbered from 0 on as they are entered");
        JumpBoard x = new JumpBoard();
        int[] bibs = {999, 1, 500, 2, 998, 8, 7, 3};
        for (int i = 0; i < 8; i++) {
            due("enter(" + bibs[i] + ")", x.enter(bibs[i]), i);
        }
        JumpBoard y = new JumpBoard();
        y.enter(0);
        due("a refused one takes no number", y.enter(5), 0);
        y.enter(5);
        due("a refused one takes no number", y.enter(6), 1);
    }

    private static void atMostEightJumpers() {
        sentence("JUMPERS .., at most eight");
        JumpBoard x = board(7);
        due("the eighth", x.enter(1), 7);
        due("a ninth", x.enter(2), NO);
        due("a ninth", x.enter(999), NO);
        due("how many", x.told(0), 8);
    }

    private static void theFirstSoManyRoundsAreJumped() {
        sentence("six ROUNDS, 0 to 5, of which the first so many have been JUMPED");
        JumpBoard x = board(2);
        for (int round = 0; round < 6; round++) {
            due("round " + round, x.jump(1, 601 + round, round), round);
            due("how many", x.told(1), round + 1);
            for (int i = 0; i < 6; i++) {
                due("mark of " + i, x.value(0, 1, i), i <= round ? 601 + i : NO_MARK);
                due("wind of " + i, x.value(1, 1, i), i <= round ? i : NO_WIND);
            }
        }
    }

    private static void aRoundNotJumpedHasNeither() {
        sentence("A round that has not been jumped has neither");
        JumpBoard x = board(1);
        x.jump(0, 1, -99);
        x.jump(0, 2, -98);
        x.undo(0);
        for (int round = 1; round < 6; round++) {
            due("mark of " + round, x.value(0, 0, round), NO_MARK);
            due("wind of " + round, x.value(1, 0, round), NO_WIND);
            due("verdict of " + round, x.verdict(0, round), 0);
            for (int how = LESS; how <= UNLIKE; how++) {
                due("mark " + round + " by " + how, x.fits(how, 0, 0, round, round), how == UNLIKE ? 1 : 0);
                due("wind " + round + " by " + how, x.fits(how, 1, 0, round, round), how == UNLIKE ? 1 : 0);
            }
        }
    }

    private static void aMarkThatIsNoneIs0() {
        sentence("In calls and answers a mark that is none is 0");
        JumpBoard x = withMarks(0, 5);
        due("value", x.value(0, 0, 0), 0);
        due("like itself", x.fits(LIKE, 0, 0, 0, 0), 0);
        due("less", x.fits(LESS, 0, 0, 0, 1), 0);
        due("count", x.count(AT_LEAST, 0, 0, 0), 0);
        due("pick", x.pick(AT_LEAST, 0, 0, 0), 0);
        due("best", board(1).best(0), 0);
        due("record", x.record(0), 0);
        due("told", x.told(4), 0);
    }

    private static void aWindThatIsNoneIs100() {
        sentence("In calls and answers .. a wind that is none is 100");
        JumpBoard x = withWinds(100, 99);
        due("value", x.value(1, 0, 0), 100);
        due("like itself", x.fits(LIKE, 1, 0, 0, 0), 0);
        due("more", x.fits(MORE, 1, 0, 0, 1), 0);
        due("count", x.count(AT_MOST, 1, 0, 100), 0);
        due("pick", x.pick(AT_MOST, 1, 0, 100), 100);
        due("limit", x.limit(100), 100);
        due("told", x.told(5), 100);
    }

    private static void aMarkOf100AndAWindOf0AreNumbers() {
        sentence("MARK (1 to 1200) .. WIND (-99 to 99): 100 is a mark, 0 is a wind");
        JumpBoard x = oneRound(100, 0, 0);
        x.record(100);
        due("mark", x.fits(LIKE, 0, 0, 0, 0), 1);
        due("wind", x.fits(LIKE, 1, 0, 0, 0), 1);
        due("count of marks", x.count(LIKE, 0, 0, 100), 1);
        due("count of winds", x.count(LIKE, 1, 0, 0), 1);
        due("best", x.best(0), 100);
        due("verdict", x.verdict(0, 0), 1 + 2 + 4 + 8 + 32 + 64 + 128);
        due("without a mark", x.told(2), 0);
        due("a wind over the limit 0", oneRound(100, 1, 0).best(0), NO_MARK);
    }

    private static void whatIs0ForMarksAnd1ForWinds() {
        sentence("WHAT is 0 for marks, 1 for winds");
        JumpBoard x = board(1);
        x.jump(0, 7, 8);
        due("value(0)", x.value(0, 0, 0), 7);
        due("value(1)", x.value(1, 0, 0), 8);
        due("count(0)", x.count(LIKE, 0, 0, 7), 1);
        due("count(0)", x.count(LIKE, 0, 0, 8), 0);
        due("count(1)", x.count(LIKE, 1, 0, 8), 1);
        due("count(1)", x.count(LIKE, 1, 0, 7), 0);
    }

    /** What is due of two numbers by each comparison. */
    private static int fitDue(int how, int v, int other) {
        boolean[] holds = {v < other, v <= other, v > other, v >= other, v == other, v != other};
        return holds[how] ? 1 : 0;
    }

    private static void fitsAsNumbersDo() {
        sentence("A VALUE FITS another one .. as numbers are");
        int[] marks = {1, 2, 600, 601, 1199, 1200};
        int[] winds = {-99, -98, -1, 0, 98, 99};
        JumpBoard x = withMarks(marks);
        JumpBoard y = withWinds(winds);
        for (int how = LESS; how <= UNLIKE; how++) {
            for (int a = 0; a < 6; a++) {
                for (int b = 0; b < 6; b++) {
                    due("marks by " + how, x.fits(how, 0, 0, a, b), fitDue(how, marks[a], marks[b]));
                    due("winds by " + how, y.fits(how, 1, 0, a, b), fitDue(how, winds[a], winds[b]));
                }
            }
        }
    }

    private static void oneNoneFitsByUnlikeAlone() {
        sentence("if one of both is none .. it FITS by UNLIKE, and by no other one");
        JumpBoard x = withMarks(1, 0, 1200);
        JumpBoard y = withWinds(-99, 100, 99);
        for (int how = LESS; how <= UNLIKE; how++) {
            int want = how == UNLIKE ? 1 : 0;
            for (int round = 0; round < 3; round += 2) {
                due("none, mark by " + how, x.fits(how, 0, 0, 1, round), want);
                due("mark, none by " + how, x.fits(how, 0, 0, round, 1), want);
                due("none, wind by " + how, y.fits(how, 1, 0, 1, round), want);
                due("wind, none by " + how, y.fits(how, 1, 0, round, 1), want);
            }
        }
    }

    private static void twoNonesFitByUnlikeAlone() {
        sentence("or both are, it FITS by UNLIKE .. (so a none is UNLIKE itself)");
        JumpBoard x = withMarks(0, 0);
        for (int how = LESS; how <= UNLIKE; how++) {
            int want = how == UNLIKE ? 1 : 0;
            for (int what = 0; what < 2; what++) {
                due("itself by " + how, x.fits(how, what, 0, 0, 0), want);
                due("another by " + how, x.fits(how, what, 0, 0, 1), want);
                due("one not jumped by " + how, x.fits(how, what, 0, 5, 0), want);
            }
        }
    }

    private static void legalNeedsAMark() {
        sentence("A round is LEGAL if it has a mark");
        for (int limit : new int[] {-99, 0, 99, 100}) {
            for (int wind : new int[] {-99, 100}) {
                due("no mark, " + wind + " by " + limit, oneRound(0, wind, limit).told(3), 0);
                due("mark 1, " + wind + " by " + limit, oneRound(1, wind, limit).told(3), 1);
                due("mark 1200, " + wind + " by " + limit, oneRound(1200, wind, limit).told(3), 1);
            }
        }
    }

    private static void legalUpToTheLimit() {
        sentence("A round is LEGAL if .. its wind is not MORE than the LIMIT");
        for (int limit = -99; limit <= 99; limit++) {
            for (int wind = -99; wind <= 99; wind++) {
                due(wind + " by " + limit, oneRound(500, wind, limit).told(3), wind <= limit ? 1 : 0);
            }
        }
    }

    private static void legalIfTheWindIsNone() {
        sentence("(so each with a mark is, if its wind .. is none)");
        for (int limit = -99; limit <= 100; limit++) {
            due("by " + limit, oneRound(500, 100, limit).best(0), 500);
        }
    }

    private static void legalIfTheLimitIsNone() {
        sentence("(so each with a mark is, if .. the LIMIT is none)");
        for (int wind = -99; wind <= 100; wind++) {
            due("wind " + wind, oneRound(500, wind, 100).best(0), 500);
            JumpBoard x = oneRound(500, wind, -99);
            x.limit(100);
            due("wind " + wind + ", a limit that was", x.best(0), 500);
        }
    }

    private static void theBestIsTheGreatestLegalMark() {
        sentence("The BEST of a jumper is the greatest mark of its LEGAL rounds");
        for (int round = 0; round < 6; round++) {
            int[] marks = {1, 1, 1, 1, 1, 1};
            marks[round] = 1200;
            due("greatest in " + round, withMarks(marks).best(0), 1200);
        }
        due("least mark", withMarks(1).best(0), 1);
        due("the same twice", withMarks(600, 600).best(0), 600);
        JumpBoard x = board(1);
        x.limit(20);
        x.jump(0, 700, 21);
        x.jump(0, 600, 20);
        due("the greatest is not legal", x.best(0), 600);
    }

    private static void theBestIsNoneWithoutALegalRound() {
        sentence("The BEST .. none without one");
        due("no round", board(1).best(0), NO_MARK);
        due("no mark", withMarks(0, 0, 0, 0, 0, 0).best(0), NO_MARK);
        due("not legal", oneRound(1200, 21, 20).best(0), NO_MARK);
        JumpBoard x = withMarks(500);
        x.undo(0);
        due("undone", x.best(0), NO_MARK);
    }

    /** Marks of a row whose mark at this place is another one, jumped in an order that is not the row's. */
    private static int[] row(int place, int mark) {
        int[] row = {800, 700, 600, 500, 400, 300};
        row[place] = mark;
        return new int[] {row[3], row[0], row[5], row[1], row[4], row[2]};
    }

    private static void rowsDifferAtEachPlace() {
        sentence("at the first place where both rows are not the same .. a has the greater mark");
        for (int place = 0; place < 6; place++) {
            int mark = 800 - 100 * place;
            JumpBoard x = board(2);
            marks(x, 0, row(place, mark + 1));
            marks(x, 1, 800, 700, 600, 500, 400, 300);
            due("greater at " + place, x.ahead(0, 1), 1);
            due("less at " + place, x.ahead(1, 0), 0);
        }
        JumpBoard x = board(2);
        marks(x, 0, 601, 1);
        marks(x, 1, 600, 600, 600, 600, 600, 600);
        due("the first place tells, not the later ones", x.ahead(0, 1), 1);
        due("the first place tells, not the later ones", x.ahead(1, 0), 0);
    }

    private static void rowsEndAtEachPlace() {
        sentence("(they are not, where just one of them has ended) .. or has a mark where b's row has ended");
        int[] row = {800, 800, 700, 700, 1, 1};
        for (int length = 0; length < 6; length++) {
            JumpBoard x = board(2);
            for (int i = 0; i <= length; i++) {
                marks(x, 0, row[i]);
            }
            for (int i = 0; i < length; i++) {
                marks(x, 1, row[i]);
            }
            due("b's row ends at " + length, x.ahead(0, 1), 1);
            due("a's row ends at " + length, x.ahead(1, 0), 0);
        }
    }

    private static void nobodyIsAheadOfItself() {
        sentence("Nobody is AHEAD of itself");
        JumpBoard x = board(8);
        for (int jumper = 0; jumper < 8; jumper++) {
            for (int round = 0; round < Math.min(jumper, 6); round++) {
                x.jump(jumper, 500 + jumper * round, round);
            }
            due("ahead(" + jumper + ")", x.ahead(jumper, jumper), 0);
        }
    }

    private static void neitherIsAheadWhereRowsAreTheSame() {
        sentence("where both rows are the same to their ends neither is");
        for (int length = 0; length <= 6; length++) {
            JumpBoard x = board(2);
            for (int i = 0; i < length; i++) {
                marks(x, 0, 500 + i / 2);
                marks(x, 1, 500 + (length - 1 - i) / 2);
            }
            due("of " + length, x.ahead(0, 1), 0);
            due("of " + length, x.ahead(1, 0), 0);
        }
    }

    private static void rowsAreOfLegalRoundsAlone() {
        sentence("the marks of the LEGAL rounds of each are laid out in a row");
        JumpBoard x = board(2);
        x.jump(0, 900, 21);
        x.jump(0, 500, 20);
        x.jump(1, 0, 0);
        x.jump(1, 501, 20);
        due("without a limit", x.ahead(0, 1), 1);
        x.limit(20);
        due("by the limit", x.ahead(0, 1), 0);
        due("by the limit", x.ahead(1, 0), 1);
        x.undo(1);
        due("undone", x.ahead(0, 1), 1);
        due("undone", x.ahead(1, 0), 0);
    }

    // Promises 1 to 6.

    private static void aNewObject() {
        sentence("JumpBoard(): No jumpers, no RECORD, no LIMIT");
        int[] told = {0, 0, 0, 0, NO_MARK, NO_WIND};
        for (int what = 0; what < 6; what++) {
            due("told(" + what + ")", new JumpBoard().told(what), told[what]);
        }
        due("record", new JumpBoard().record(1), NO_MARK);
        due("limit", new JumpBoard().limit(1), NO_WIND);
        due("REFUSED", JumpBoard.REFUSED, -1000);
    }

    private static void aJumperComesWithNoRoundJumped() {
        sentence("A jumper with this bib comes, with no round jumped");
        JumpBoard x = board(8);
        for (int jumper = 0; jumper < 8; jumper++) {
            for (int round = 0; round < 6; round++) {
                due("mark of " + jumper, x.value(0, jumper, round), NO_MARK);
                due("wind of " + jumper, x.value(1, jumper, round), NO_WIND);
            }
            due("undo(" + jumper + ")", x.undo(jumper), NO);
        }
        due("how many", x.told(1), 0);
        due("without a mark", x.told(2), 0);
    }

    private static void theBibIs1To999() {
        sentence("REFUSED: .. the bib isn't 1 to 999");
        takenFromTo("enter", 1, 999, v -> new JumpBoard().enter(v));
        takenFromTo("enter, the eighth", 1, 999, v -> {
            JumpBoard x = new JumpBoard();
            for (int bib = 500; x.told(0) < 7; bib++) {
                x.enter(bib == v ? 600 : bib);
            }
            return x.enter(v);
        });
    }

    private static void noJumperHasTheBib() {
        sentence("REFUSED: .. or a jumper has it");
        for (int bib : new int[] {1, 2, 500, 998, 999}) {
            for (int others = 0; others < 7; others++) {
                JumpBoard x = board(others);
                due("enter(" + bib + ")", x.enter(bib), others);
                due("enter(" + bib + ") again", x.enter(bib), NO);
                if (others > 0) {
                    due("the first one's bib", x.enter(10), NO);
                    due("the one's before it", x.enter(9 + others), NO);
                }
                due("another bib", x.enter(3), others + 1);
            }
        }
    }

    private static void aNinthIsRefused() {
        sentence("REFUSED: there are eight");
        takenFromTo("enter, a ninth", MAX, MIN, v -> board(8).enter(v));
    }

    private static void theMarkOfAJumpIs0To1200() {
        sentence("REFUSED: .. the mark isn't 0 to 1200");
        takenFromTo("jump, the mark", 0, 1200, v -> board(1).jump(0, v, 0));
        for (int mark : new int[] {0, 1, 1199, 1200}) {
            due("mark " + mark, withMarks(mark).value(0, 0, 0), mark);
        }
    }

    private static void theWindOfAJumpIsMinus99To100() {
        sentence("REFUSED: .. the wind isn't -99 to 100");
        takenFromTo("jump, the wind", -99, 100, v -> board(1).jump(0, 500, v));
        for (int wind : new int[] {-99, -98, -1, 0, 1, 98, 99, 100}) {
            due("wind " + wind, withWinds(wind).value(1, 0, 0), wind);
        }
    }

    private static void aSeventhRoundIsRefused() {
        sentence("REFUSED: .. or all six have been jumped");
        JumpBoard x = board(2);
        for (int round = 0; round < 6; round++) {
            due("round " + round, x.jump(0, 0, 100), round);
        }
        due("a seventh", x.jump(0, 0, 100), NO);
        due("a seventh", x.jump(0, 500, 0), NO);
        due("the next jumper's first", x.value(0, 1, 0), NO_MARK);
        due("the next jumper", x.jump(1, 500, 0), 0);
        x.undo(0);
        due("the sixth again", x.jump(0, 500, 0), 5);
        due("a seventh", x.jump(0, 500, 0), NO);
    }

    private static void noSuchJumperToJumpOrUndo() {
        sentence("jump, undo, REFUSED: there is no such jumper");
        for (int jumpers = 0; jumpers <= 8; jumpers++) {
            int there = jumpers;
            takenFromTo("jump of " + there, 0, there - 1, v -> board(there).jump(v, 500, 0));
            takenFromTo("undo of " + there, 0, there - 1, v -> {
                JumpBoard x = board(there);
                x.jump(v, 500, 0);
                return x.undo(v);
            });
        }
    }

    private static void undoTellsHowManyHaveBeen() {
        sentence("The latest round of a jumper has not been jumped any more: how many have been");
        JumpBoard x = board(2);
        for (int round = 0; round < 6; round++) {
            x.jump(0, 601 + round, round);
            x.jump(1, 701 + round, -round);
        }
        for (int left = 5; left >= 0; left--) {
            due("undo", x.undo(0), left);
            due("how many", x.told(1), 6 + left);
            for (int round = 0; round < 6; round++) {
                due("mark of " + round, x.value(0, 0, round), round < left ? 601 + round : NO_MARK);
                due("wind of " + round, x.value(1, 0, round), round < left ? round : NO_WIND);
                due("the other's mark", x.value(0, 1, round), 701 + round);
            }
        }
    }

    private static void undoOfNoneIsRefused() {
        sentence("REFUSED: .. or none has been");
        JumpBoard x = board(2);
        x.jump(1, 500, 0);
        due("none", x.undo(0), NO);
        x.jump(0, 0, 100);
        due("a round without values has been jumped", x.undo(0), 0);
        due("none any more", x.undo(0), NO);
        due("the other's stays", x.told(1), 1);
    }

    private static void aRoundThatIsUndoneIsJumpedAnew() {
        sentence("The latest round .. has not been jumped any more: the next jump is of this round");
        JumpBoard x = board(1);
        for (int round = 0; round < 6; round++) {
            due("jump", x.jump(0, 900, 90), round);
            due("undo", x.undo(0), round);
            due("jump again", x.jump(0, 100 + round, 100), round);
            due("its mark", x.value(0, 0, round), 100 + round);
            due("its wind", x.value(1, 0, round), NO_WIND);
        }
    }

    private static void theRecordIs0To1200() {
        sentence("record, REFUSED: the mark isn't 0 to 1200");
        takenFromTo("record", 0, 1200, v -> new JumpBoard().record(v));
        takenFromTo("record, with one", 0, 1200, v -> {
            JumpBoard x = new JumpBoard();
            x.record(7);
            int answer = x.record(v);
            due("told behind record(" + v + ")", x.told(4), v < 0 || v > 1200 ? 7 : v);
            return answer;
        });
    }

    private static void theRecordWas() {
        sentence("The RECORD becomes this mark (0: none): what it was");
        JumpBoard x = new JumpBoard();
        int was = NO_MARK;
        for (int mark : new int[] {1, 1200, 0, 0, 1200, 1200, 1, 0, 100, 0}) {
            due("record(" + mark + ")", x.record(mark), was);
            due("told", x.told(4), mark);
            due("the limit stays", x.told(5), NO_WIND);
            was = mark;
        }
    }

    private static void theLimitIsMinus99To100() {
        sentence("limit, REFUSED: the wind isn't -99 to 100");
        takenFromTo("limit", -99, 100, v -> new JumpBoard().limit(v));
        takenFromTo("limit, with one", -99, 100, v -> {
            JumpBoard x = new JumpBoard();
            x.limit(7);
            int answer = x.limit(v);
            due("told behind limit(" + v + ")", x.told(5), v < -99 || v > 100 ? 7 : v);
            return answer;
        });
    }

    private static void theLimitWas() {
        sentence("The LIMIT becomes this wind (100: none): what it was");
        JumpBoard x = new JumpBoard();
        int was = NO_WIND;
        for (int wind : new int[] {-99, 99, 0, 0, 100, 100, -1, 1, 100}) {
            due("limit(" + wind + ")", x.limit(wind), was);
            due("told", x.told(5), wind);
            due("the record stays", x.told(4), NO_MARK);
            was = wind;
        }
    }

    // Promises 7 to 13, refused.

    private static void noSuchWhat() {
        sentence("REFUSED: there is no such .. what");
        takenFromTo("value", 0, 1, v -> board(1).value(v, 0, 0));
        takenFromTo("fits", 0, 1, v -> board(1).fits(LIKE, v, 0, 0, 0));
        for (int question = 0; question < 5; question++) {
            int asked = question;
            takenFromTo("question " + asked, 0, 1, v -> ask(board(1), asked, LIKE, v, 0, 50));
        }
    }

    private static void noSuchHow() {
        sentence("REFUSED: there is no such how");
        takenFromTo("fits", 0, 5, v -> board(1).fits(v, 0, 0, 0, 0));
        takenFromTo("fits of numbers", 0, 5, v -> withMarks(1, 2).fits(v, 0, 0, 0, 1));
        for (int question = 0; question < 5; question++) {
            int asked = question;
            takenFromTo("question " + asked, 0, 5, v -> ask(board(1), asked, v, 0, 0, 50));
            takenFromTo("question of winds " + asked, 0, 5, v -> ask(withWinds(1), asked, v, 1, 0, 50));
        }
    }

    private static void noSuchRound() {
        sentence("REFUSED: there is no such .. round");
        for (int jumper = 0; jumper < 3; jumper++) {
            int of = jumper;
            takenFromTo("value, mark", 0, 5, v -> board(3).value(0, of, v));
            takenFromTo("value, wind", 0, 5, v -> board(3).value(1, of, v));
            takenFromTo("fits, a", 0, 5, v -> board(3).fits(UNLIKE, 0, of, v, 0));
            takenFromTo("fits, b", 0, 5, v -> board(3).fits(UNLIKE, 1, of, 0, v));
            takenFromTo("skip", 0, 5, v -> board(3).skip(UNLIKE, 0, of, v, 500));
            takenFromTo("verdict", 0, 5, v -> board(3).verdict(of, v));
        }
    }

    private static void noSuchJumper() {
        sentence("REFUSED: there is no such .. jumper");
        for (int jumpers = 0; jumpers <= 8; jumpers++) {
            int there = jumpers;
            int last = there - 1;
            takenFromTo("value", 0, last, v -> board(there).value(0, v, 0));
            takenFromTo("fits", 0, last, v -> board(there).fits(LIKE, 1, v, 0, 0));
            for (int question = 0; question < 5; question++) {
                int asked = question;
                takenFromTo("question " + asked, 0, last, v -> ask(board(there), asked, LIKE, 0, v, 50));
            }
            takenFromTo("best", 0, last, v -> board(there).best(v));
            takenFromTo("ahead, a", 0, last, v -> board(there).ahead(v, 0));
            takenFromTo("ahead, b", 0, last, v -> board(there).ahead(0, v));
            takenFromTo("ahead, both", 0, last, v -> board(there).ahead(v, v));
            takenFromTo("place", 0, last, v -> board(there).place(v));
            takenFromTo("verdict", 0, last, v -> board(there).verdict(v, 0));
        }
    }

    private static int ask(JumpBoard x, int question, int how, int what, int jumper, int v) {
        switch (question) {
            case 0: return x.count(how, what, jumper, v);
            case 1: return x.turned(how, what, jumper, v);
            case 2: return x.longest(how, what, jumper, v);
            case 3: return x.skip(how, what, jumper, 0, v);
            default: return x.pick(how, what, jumper, v);
        }
    }

    private static void aMarkToCompareIs0To1200() {
        sentence("REFUSED: .. or v is none such (a mark, as in jump())");
        for (int question = 0; question < 5; question++) {
            int asked = question;
            takenFromTo("question " + asked, 0, 1200, v -> ask(board(1), asked, UNLIKE, 0, 0, v));
        }
    }

    private static void aWindToCompareIsMinus99To100() {
        sentence("REFUSED: .. or v is none such (a wind, as in jump())");
        for (int question = 0; question < 5; question++) {
            int asked = question;
            takenFromTo("question " + asked, -99, 100, v -> ask(board(1), asked, UNLIKE, 1, 0, v));
        }
    }

    // Promises 8 to 13.

    private static void fitsOfARoundAndItself() {
        sentence("of its round b (which may be a, too)");
        int[] number = {0, 1, 0, 1, 1, 0};
        int[] none = {0, 0, 0, 0, 0, 1};
        JumpBoard x = withMarks(1, 2, 3, 4, 5, 0);
        for (int how = LESS; how <= UNLIKE; how++) {
            for (int round = 0; round < 5; round++) {
                due("a number by " + how, x.fits(how, 0, 0, round, round), number[how]);
            }
            due("none by " + how, x.fits(how, 0, 0, 5, 5), none[how]);
        }
    }

    private static void countsAllSixRounds() {
        sentence("How many of the six rounds of a jumper");
        for (int jumped = 0; jumped <= 6; jumped++) {
            JumpBoard x = board(1);
            for (int round = 0; round < jumped; round++) {
                x.jump(0, 500, 5);
            }
            due("like, " + jumped, x.count(LIKE, 0, 0, 500), jumped);
            due("unlike, " + jumped, x.count(UNLIKE, 0, 0, 500), 6 - jumped);
            due("unlike another, " + jumped, x.count(UNLIKE, 1, 0, 6), 6);
            due("unlike none, " + jumped, x.count(UNLIKE, 1, 0, 100), 6);
            due("turned, like, " + jumped, x.turned(LIKE, 1, 0, 5), jumped);
            due("turned, unlike, " + jumped, x.turned(UNLIKE, 1, 0, 5), 6 - jumped);
            due("turned, unlike none, " + jumped, x.turned(UNLIKE, 0, 0, 0), 6);
        }
    }

    private static void turnedIsNotCount() {
        sentence("count: a value that FITS v; turned: a value which v FITS");
        JumpBoard x = withMarks(1, 499, 500, 501, 1200, 0);
        int[] counted = {2, 3, 2, 3, 1, 5};
        int[] turned = {2, 3, 2, 3, 1, 5};
        int[] countedLow = {1, 2, 3, 4, 1, 5};
        int[] turnedLow = {3, 4, 1, 2, 1, 5};
        for (int how = LESS; how <= UNLIKE; how++) {
            due("count 500 by " + how, x.count(how, 0, 0, 500), counted[how]);
            due("turned 500 by " + how, x.turned(how, 0, 0, 500), turned[how]);
            due("count 499 by " + how, x.count(how, 0, 0, 499), countedLow[how]);
            due("turned 499 by " + how, x.turned(how, 0, 0, 499), turnedLow[how]);
        }
        due("none is less than 1200", x.count(LESS, 0, 0, 1200), 4);
        due("less than 1", x.count(LESS, 0, 0, 1), 0);
        due("1 is less", x.turned(LESS, 0, 0, 1), 4);
    }

    private static void longestIsNoneWhereAllFit() {
        sentence("the longest row of rounds .. none of which has a value that FITS v: no row");
        JumpBoard x = withMarks(500, 500, 500, 500, 500, 500);
        due("like", x.longest(LIKE, 0, 0, 500), 0);
        due("at least", x.longest(AT_LEAST, 0, 0, 1), 0);
        due("unlike another", x.longest(UNLIKE, 0, 0, 501), 0);
        due("unlike none", x.longest(UNLIKE, 0, 0, 0), 0);
        due("not jumped, unlike", board(1).longest(UNLIKE, 1, 0, 0), 0);
    }

    private static void longestIsSixWhereNoneFits() {
        sentence("the longest row of rounds .. none of which has a value that FITS v: all six");
        JumpBoard x = withMarks(500, 500, 500, 500, 500, 500);
        due("unlike", x.longest(UNLIKE, 0, 0, 500), 6);
        due("more", x.longest(MORE, 0, 0, 500), 6);
        due("like none", x.longest(LIKE, 0, 0, 0), 6);
        due("not jumped, at most", board(1).longest(AT_MOST, 0, 0, 1200), 6);
        due("not jumped, like none", board(1).longest(LIKE, 1, 0, 100), 6);
    }

    /** Each way in which six rounds may fit or not. */
    private static void longestAtEachPlace() {
        sentence("the longest row of rounds of a jumper, one behind the other");
        for (int pattern = 0; pattern < 64; pattern++) {
            JumpBoard x = board(1);
            StringBuilder fitting = new StringBuilder();
            for (int round = 0; round < 6; round++) {
                boolean fits = (pattern >> round & 1) == 1;
                x.jump(0, fits ? 500 : 501, 0);
                fitting.append(fits ? ' ' : 'n');
            }
            int longest = 0;
            for (String row : fitting.toString().split(" ")) {
                longest = Math.max(longest, row.length());
            }
            due("rounds '" + fitting + "'", x.longest(LIKE, 0, 0, 500), longest);
        }
    }

    private static void skipAnswers6IfThereIsNone() {
        sentence("whose value doesn't FIT v; 6 if there is none");
        JumpBoard x = withMarks(500, 500, 500, 500, 500, 500);
        for (int from = 0; from < 6; from++) {
            due("all fit, from " + from, x.skip(LIKE, 0, 0, from, 500), 6);
            due("all are unlike none, from " + from, x.skip(UNLIKE, 0, 0, from, 0), 6);
            due("none fits, from " + from, x.skip(UNLIKE, 0, 0, from, 500), from);
            due("not jumped, unlike, from " + from, board(1).skip(UNLIKE, 1, 0, from, 0), 6);
            due("not jumped, like none, from " + from, board(1).skip(LIKE, 1, 0, from, 100), from);
        }
    }

    private static void skipStartsAtItsRound() {
        sentence("The first round of a jumper, from this one on");
        for (int odd = 0; odd < 6; odd++) {
            int[] marks = {500, 500, 500, 500, 500, 500};
            marks[odd] = 501;
            JumpBoard x = withMarks(marks);
            for (int from = 0; from < 6; from++) {
                due(odd + " from " + from, x.skip(LIKE, 0, 0, from, 500), from <= odd ? odd : 6);
            }
        }
    }

    private static void pickHoldsVAtFirst() {
        sentence("At first v is held");
        for (int how = LESS; how <= UNLIKE; how++) {
            int last = how == UNLIKE ? NO_MARK : 500;
            due("rounds not jumped, by " + how, board(1).pick(how, 0, 0, 500), last);
            due("no mark is held, by " + how, board(1).pick(how, 0, 0, 0), NO_MARK);
            due("no wind is held, by " + how, board(1).pick(how, 1, 0, 100), NO_WIND);
        }
        JumpBoard x = withMarks(1, 2, 3, 4, 5, 1199);
        due("nothing is more than 1200", x.pick(MORE, 0, 0, 1200), 1200);
        due("nothing is less than 1", x.pick(LESS, 0, 0, 1), 1);
    }

    private static void pickGoesThroughAllRounds() {
        sentence("then, round by round from 0 to 5, the value of the round is held instead, if it FITS what is held");
        due("the first counts", withMarks(1200, 5, 5, 5, 5, 5).pick(MORE, 0, 0, 1), 1200);
        due("the last counts", withMarks(5, 5, 5, 5, 5, 1200).pick(MORE, 0, 0, 1), 1200);
        due("each step", withMarks(2, 3, 4, 5, 6, 7).pick(MORE, 0, 0, 1), 7);
        due("what is held, not v", withMarks(9, 2, 8, 3, 7, 4).pick(MORE, 0, 0, 1), 9);
        due("least wind", withWinds(-98, 99, -99, 0, 1, -1).pick(LESS, 1, 0, 99), -99);
        due("unlike, the last one like it stays", withMarks(5, 6, 7, 7, 7, 7).pick(UNLIKE, 0, 0, 5), 7);
    }

    private static void pickHoldsANone() {
        sentence("the value of the round is held instead, if it FITS: a none by UNLIKE, and all behind a none");
        due("ends in none", withMarks(1, 2, 3, 4, 5, 0).pick(UNLIKE, 0, 0, 9), NO_MARK);
        due("goes on behind none", withMarks(1, 2, 3, 4, 0, 4).pick(UNLIKE, 0, 0, 9), 4);
        due("from none", withMarks(1, 1, 1, 1, 1, 1).pick(UNLIKE, 0, 0, 0), 1);
        due("from no wind", withWinds(-1, -1, -1, -1, -1, -1).pick(UNLIKE, 1, 0, 100), -1);
        due("none isn't less", withMarks(5, 0, 6).pick(LESS, 0, 0, 9), 5);
        due("no wind isn't more", withWinds(5, 100, 4).pick(MORE, 1, 0, 1), 5);
        due("nothing fits none by more", withMarks(5, 6).pick(MORE, 0, 0, 0), NO_MARK);
        due("nothing fits none by like", withMarks(0, 0, 5).pick(LIKE, 0, 0, 0), NO_MARK);
    }

    // Promises 14 to 17.

    private static void placeIs0WithoutABest() {
        sentence("The place of a jumper: .. 0 if its BEST is none");
        JumpBoard x = board(3);
        due("nobody has one", x.place(0), 0);
        x.jump(0, 1, 0);
        x.jump(1, 0, 0);
        x.jump(2, 1200, 1);
        x.limit(0);
        due("the least mark", x.place(0), 1);
        due("no mark", x.place(1), 0);
        due("no legal mark", x.place(2), 0);
        x.limit(1);
        due("a legal one", x.place(2), 1);
        due("behind it", x.place(0), 2);
    }

    private static void placesOfEight() {
        sentence("The place of a jumper: 1 more than how many are AHEAD of it");
        JumpBoard up = board(8);
        JumpBoard down = board(8);
        for (int jumper = 0; jumper < 8; jumper++) {
            up.jump(jumper, 1 + jumper, 0);
            down.jump(jumper, 1200 - jumper, 0);
        }
        for (int jumper = 0; jumper < 8; jumper++) {
            due("up, place(" + jumper + ")", up.place(jumper), 8 - jumper);
            due("down, place(" + jumper + ")", down.place(jumper), jumper + 1);
            due("up, order(" + jumper + ")", up.order(jumper), jumper);
            due("down, order(" + jumper + ")", down.order(jumper), 7 - jumper);
        }
    }

    private static void theSamePlaceForTheSameRows() {
        sentence("1 more than how many are AHEAD of it: the same rows have the same place");
        JumpBoard x = board(8);
        for (int jumper = 0; jumper < 8; jumper++) {
            x.jump(jumper, 600 - jumper / 3, 0);
        }
        int[] places = {1, 1, 1, 4, 4, 4, 7, 7};
        for (int jumper = 0; jumper < 8; jumper++) {
            due("place(" + jumper + ")", x.place(jumper), places[jumper]);
        }
    }

    private static void orderOfThoseWithoutABest() {
        sentence("first those whose BEST is none, by their numbers");
        JumpBoard x = board(8);
        for (int k = 0; k < 8; k++) {
            due("nobody has one, order(" + k + ")", x.order(k), k);
        }
        x.jump(0, 1, 0);
        x.jump(3, 1200, 1);
        x.jump(5, 0, 0);
        x.limit(0);
        int[] order = {1, 2, 3, 4, 5, 6, 7, 0};
        for (int k = 0; k < 8; k++) {
            due("order(" + k + ")", x.order(k), order[k]);
        }
    }

    private static void orderOfTheOthers() {
        sentence("then the others, each behind all those that it is AHEAD of");
        JumpBoard x = board(5);
        marks(x, 0, 600, 500);
        marks(x, 1, 600, 500, 1);
        marks(x, 2, 600);
        marks(x, 3, 600, 501);
        marks(x, 4, 1, 1, 1, 1, 1, 1);
        int[] order = {4, 2, 0, 1, 3};
        for (int k = 0; k < 5; k++) {
            due("order(" + k + ")", x.order(k), order[k]);
        }
    }

    private static void orderByTheLesserNumber() {
        sentence("of two of which neither is AHEAD of the other the one with the lesser number first");
        JumpBoard x = board(8);
        for (int jumper = 0; jumper < 8; jumper++) {
            x.jump(jumper, 600 - jumper % 2, 0);
        }
        int[] order = {1, 3, 5, 7, 0, 2, 4, 6};
        for (int k = 0; k < 8; k++) {
            due("order(" + k + ")", x.order(k), order[k]);
        }
    }

    private static void orderIsRefusedFromHowManyOn() {
        sentence("order, REFUSED: there are not so many jumpers, or k is below 0");
        for (int jumpers = 0; jumpers <= 8; jumpers++) {
            int there = jumpers;
            takenFromTo("order of " + there, 0, there - 1, v -> board(there).order(v));
        }
    }

    // Promises 18 and 19.

    private static int part(JumpBoard x, int round, int bits) {
        return x.verdict(0, round) & bits;
    }

    private static void verdict1IfItHasAMark() {
        sentence("1 if it has a mark");
        due("none", part(oneRound(0, 5, 5), 0, 1), 0);
        due("1", part(oneRound(1, 5, 4), 0, 1), 1);
        due("1200", part(oneRound(1200, 100, 4), 0, 1), 1);
        due("not jumped", part(board(1), 5, 1), 0);
    }

    private static void verdict2IfItHasAWind() {
        sentence("2 if it has a wind");
        due("none", part(oneRound(500, 100, 5), 0, 2), 0);
        due("-99", part(oneRound(0, -99, 5), 0, 2), 2);
        due("0", part(oneRound(0, 0, 100), 0, 2), 2);
        due("99", part(oneRound(0, 99, 5), 0, 2), 2);
        due("not jumped", part(board(1), 0, 2), 0);
    }

    private static void verdict4IfItIsLegal() {
        sentence("4 if it is LEGAL");
        due("at the limit", part(oneRound(500, 5, 5), 0, 4), 4);
        due("over it", part(oneRound(500, 6, 5), 0, 4), 0);
        due("no wind", part(oneRound(500, 100, -99), 0, 4), 4);
        due("no limit", part(oneRound(500, 99, 100), 0, 4), 4);
        due("no mark", part(oneRound(0, -99, 99), 0, 4), 0);
    }

    private static void verdict8To32ByTheRecord() {
        sentence("8 if its mark is AT LEAST the RECORD, 16 if .. MORE .., 32 if .. LIKE ..");
        int[][] rows = {{599, 600, 0}, {600, 600, 8 + 32}, {601, 600, 8 + 16}, {1, 1, 8 + 32}, {1, 2, 0},
            {1200, 1200, 8 + 32}, {1200, 1199, 8 + 16}, {0, 1, 0}, {0, 1200, 0}, {1200, 0, 0}, {0, 0, 0}};
        for (int[] row : rows) {
            JumpBoard x = oneRound(row[0], 9, 5);
            x.record(row[1]);
            due(row[0] + " by the record " + row[1], x.verdict(0, 0), row[2] + 2 + (row[0] == 0 ? 0 : 1 + 128));
        }
        JumpBoard x = board(1);
        x.record(1);
        due("not jumped", part(x, 0, 8 + 16 + 32), 0);
    }

    private static void verdict64ByTheLimit() {
        sentence("64 if its wind is AT MOST the LIMIT");
        int[][] rows = {{4, 5, 64}, {5, 5, 64}, {6, 5, 0}, {-99, -99, 64}, {-98, -99, 0}, {99, 99, 64}, {99, 98, 0},
            {0, 0, 64}, {100, 99, 0}, {100, -99, 0}, {-99, 100, 0}, {100, 100, 0}};
        for (int[] row : rows) {
            due(row[0] + " by the limit " + row[1], part(oneRound(500, row[0], row[1]), 0, 64), row[2]);
            due("no mark, " + row[0] + " by " + row[1], part(oneRound(0, row[0], row[1]), 0, 64), row[2]);
        }
        JumpBoard x = board(1);
        x.limit(99);
        due("not jumped", part(x, 0, 64), 0);
    }

    private static void verdict128IfNoneAheadIsAtLeastIt() {
        sentence("128 if it has a mark, and no round ahead of it .. has a mark that is AT LEAST its own");
        for (int earlier = 0; earlier < 5; earlier++) {
            for (int mark = 599; mark <= 601; mark++) {
                int[] marks = {1, 1, 1, 1, 1, 600};
                marks[earlier] = mark;
                due(mark + " in " + earlier, part(withMarks(marks), 5, 128), mark < 600 ? 128 : 0);
            }
        }
        due("no round is ahead of the first", part(withMarks(1), 0, 128), 128);
        due("no mark", part(withMarks(0), 0, 128), 0);
        due("no mark behind no marks", part(withMarks(0, 0, 0), 2, 128), 0);
        due("not jumped", part(withMarks(1), 1, 128), 0);
        due("behind a mark of 100, which is no none", part(withMarks(100, 100), 1, 128), 0);
        due("the least mark behind no marks", part(withMarks(0, 0, 0, 0, 0, 1), 5, 128), 128);
    }

    private static void verdict128LooksAheadAlone() {
        sentence("no round ahead of it (of this jumper)");
        JumpBoard x = withMarks(600, 600, 601);
        due("a later one is at least it", part(x, 0, 128), 128);
        due("the one ahead is", part(x, 1, 128), 0);
        due("none ahead is", part(x, 2, 128), 128);
        JumpBoard y = board(2);
        marks(y, 0, 500);
        marks(y, 1, 900);
        due("another jumper's", part(y, 0, 128), 128);
        due("another jumper's", y.verdict(1, 0) & 128, 128);
        marks(y, 1, 800);
        due("its own", y.verdict(1, 1) & 128, 0);
    }

    private static void verdict128AsksForAMarkNotForALegalOne() {
        sentence("no round ahead of it .. has a mark: LEGAL or not");
        JumpBoard x = board(1);
        x.limit(0);
        x.jump(0, 700, 1);
        x.jump(0, 700, 0);
        x.jump(0, 701, 1);
        due("not legal itself", part(x, 0, 4 + 128), 128);
        due("behind one that isn't legal", part(x, 1, 4 + 128), 4);
        due("not legal, more than all", part(x, 2, 4 + 128), 128);
    }

    private static void toldOfEach() {
        sentence("0 how many jumpers there are, 1 how many rounds have been jumped, 2 .. no mark, 3 .. LEGAL");
        JumpBoard x = board(8);
        x.limit(0);
        int rounds = 0;
        for (int round = 0; round < 6; round++) {
            for (int jumper = 0; jumper < 8; jumper++) {
                x.jump(jumper, jumper % 2 == 0 ? 500 : 0, jumper % 4 == 0 ? 1 : 0);
                rounds++;
                int legal = round * 2 + (jumper >= 2 ? 1 : 0) + (jumper >= 6 ? 1 : 0);
                due("told(1)", x.told(1), rounds);
                due("told(2)", x.told(2), rounds / 2);
                due("told(3)", x.told(3), legal);
            }
        }
        due("told(0)", x.told(0), 8);
        x.limit(100);
        due("told(3) without a limit", x.told(3), 24);
    }

    private static void toldOfAnotherWhat() {
        sentence("told, REFUSED: another what");
        takenFromTo("told", 0, 5, v -> new JumpBoard().told(v));
        takenFromTo("told of eight", 0, 5, v -> board(8).told(v));
    }

    // An object without jumpers, one with eight, the last call that is promised.

    private static void withoutJumpersEachQuestionIsRefused() {
        sentence("REFUSED: there is no such jumper: an object without jumpers");
        for (int jumper : new int[] {MIN, -1, 0, 1, 7, 8, MAX}) {
            JumpBoard x = new JumpBoard();
            due("jump", x.jump(jumper, 500, 0), NO);
            due("undo", x.undo(jumper), NO);
            due("value", x.value(0, jumper, 0), NO);
            due("fits", x.fits(UNLIKE, 0, jumper, 0, 0), NO);
            for (int question = 0; question < 5; question++) {
                due("question " + question, ask(x, question, UNLIKE, 0, jumper, 500), NO);
            }
            due("best", x.best(jumper), NO);
            due("ahead", x.ahead(jumper, jumper), NO);
            due("place", x.place(jumper), NO);
            due("order", x.order(jumper), NO);
            due("verdict", x.verdict(jumper, 0), NO);
        }
    }

    private static void withoutJumpersTheRestIsTaken() {
        sentence("record, limit and told on an object without jumpers");
        JumpBoard x = new JumpBoard();
        due("record", x.record(1200), NO_MARK);
        due("limit", x.limit(-99), NO_WIND);
        int[] told = {0, 0, 0, 0, 1200, -99};
        for (int what = 0; what < 6; what++) {
            due("told(" + what + ")", x.told(what), told[what]);
        }
        due("the first jumper", x.enter(999), 0);
        due("the record stays", x.told(4), 1200);
        due("the limit stays", x.told(5), -99);
    }

    private static JumpBoard full() {
        JumpBoard x = board(8);
        for (int jumper = 0; jumper < 8; jumper++) {
            for (int round = 0; round < 6; round++) {
                x.jump(jumper, 700 + jumper, round);
            }
        }
        return x;
    }

    private static void withEightTheLastIsTaken() {
        sentence("at most eight: the eighth, in its sixth round");
        JumpBoard x = full();
        due("value", x.value(0, 7, 5), 707);
        due("value", x.value(1, 7, 5), 5);
        due("fits", x.fits(LIKE, 0, 7, 5, 4), 1);
        due("count", x.count(AT_MOST, 1, 7, 5), 6);
        due("turned", x.turned(AT_MOST, 1, 7, 5), 1);
        due("longest", x.longest(LIKE, 1, 7, 5), 5);
        due("skip", x.skip(LIKE, 1, 7, 5, 5), 6);
        due("pick", x.pick(MORE, 1, 7, -99), 5);
        due("best", x.best(7), 707);
        due("ahead", x.ahead(7, 0), 1);
        due("ahead", x.ahead(0, 7), 0);
        due("place", x.place(7), 1);
        due("order", x.order(7), 7);
        due("verdict", x.verdict(7, 5), 1 + 2 + 4);
        due("undo", x.undo(7), 5);
        due("jump", x.jump(7, 1, -99), 5);
        due("the first one's first", x.value(0, 0, 0), 700);
    }

    private static void withEightTheNextIsRefused() {
        sentence("at most eight: there is no ninth, and no seventh round");
        JumpBoard x = full();
        for (int ninth : new int[] {8, 9, MAX, -1, MIN}) {
            due("jump", x.jump(ninth, 500, 0), NO);
            due("undo", x.undo(ninth), NO);
            due("value", x.value(0, ninth, 0), NO);
            due("best", x.best(ninth), NO);
            due("ahead", x.ahead(ninth, 7), NO);
            due("ahead", x.ahead(7, ninth), NO);
            due("place", x.place(ninth), NO);
            due("order", x.order(ninth), NO);
            due("verdict", x.verdict(ninth, 5), NO);
        }
        due("enter", x.enter(500), NO);
        due("a seventh round", x.jump(7, 500, 0), NO);
        due("value of a seventh", x.value(0, 0, 6), NO);
        due("verdict of a seventh", x.verdict(0, 6), NO);
        due("jumped", x.told(1), 48);
    }

    private static void a512thCall() {
        sentence("An object is used for at most 512 calls after it has been made");
        JumpBoard x = board(1);
        for (int call = 2; call <= 511; call += 2) {
            due("jump", x.jump(0, 500, 0), 0);
            due("undo", x.undo(0), 0);
        }
        due("the 512th", x.jump(0, 500, 0), 0);
        JumpBoard y = board(1);
        for (int call = 2; call <= 511; call++) {
            y.enter(call % 9 - 4);
        }
        due("the 512th", y.told(0), 5);
    }
}

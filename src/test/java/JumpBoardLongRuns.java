import java.util.function.ToIntFunction;

/**
 * Objects that are used up to their 512th call, by runs whose answers can be told from the call's number alone, so
 * that no second program has to be trusted.
 */
public final class JumpBoardLongRuns {
    private static final int NO = JumpBoard.REFUSED;
    private static final int LAST_CALL = 512;
    private static final int ROUNDS = 6;
    private static final int JUMPERS = 8;
    private static final int SHOWN = 20;

    private static String run = "";
    private static int calls = 0;
    private static int wrong = 0;

    public static void main(String[] args) {
        roundsGoUpAndDown();
        recordAndLimitAnswerWhatTheyWere();
        refusedCallsLeaveTheBoardNew();
        jumpersComeLate();
        fullBoardAnswersTheSame();
        emptyBoardAnswersTheSame();
        twoOvertakeEachOther();
        theLimitTurnsTheOrder();
        eachCallIsTheLastOne();
        objectsLeaveEachOtherAlone();
        System.out.println(wrong == 0 ? "long runs answer as due" : wrong + " answers are not as due");
        if (wrong != 0) {
            System.exit(1);
        }
    }

    private static JumpBoard begin(String name) {
        run = name;
        calls = 0;
        return new JumpBoard();
    }

    private static void due(String call, int got, int want) {
        calls++;
        if (got != want) {
            wrong++;
            if (wrong <= SHOWN) {
                System.out.println(run + ", call " + calls + ": " + call + " answered " + got + ", due is " + want);
            }
        }
    }

    /** A run that stops early, or goes beyond what is promised, shows nothing of the 512th call. */
    private static void end() {
        if (calls != LAST_CALL) {
            wrong++;
            System.out.println(run + " has " + calls + " calls");
        }
    }

    private static void roundsGoUpAndDown() {
        JumpBoard x = begin("rounds go up and down");
        due("enter", x.enter(999), 0);
        for (int lap = 0; lap < 20; lap++) {
            for (int round = 0; round < ROUNDS; round++) {
                due("jump", x.jump(0, 50 * lap + round + 1, lap - round), round);
                due("value", x.value(0, 0, round), 50 * lap + round + 1);
            }
            due("a seventh", x.jump(0, 500, 0), NO);
            for (int left = ROUNDS - 1; left >= 0; left--) {
                due("undo", x.undo(0), left);
                due("value", x.value(1, 0, left), 100);
            }
        }
        while (calls < LAST_CALL) {
            due("undo", x.undo(0), NO);
        }
        end();
    }

    private static void recordAndLimitAnswerWhatTheyWere() {
        JumpBoard x = begin("record and limit answer what they were");
        due("record", x.record(1), 0);
        due("limit", x.limit(-99), 100);
        for (int i = 1; i <= 85; i++) {
            due("record", x.record(1 + 14 * i), 14 * i - 13);
            due("limit", x.limit(2 * i - 99), 2 * i - 101);
            due("record", x.record(1200 + i), NO);
            due("limit", x.limit(-99 - i), NO);
            due("told(4)", x.told(4), 1 + 14 * i);
            due("told(5)", x.told(5), 2 * i - 99);
        }
        end();
    }

    private static void refusedCallsLeaveTheBoardNew() {
        JumpBoard x = begin("refused calls leave the board new");
        for (int i = 0; i < 36; i++) {
            due("enter", x.enter(i % 2 == 0 ? -i : 1000 + i), NO);
            due("jump", x.jump(i % 8, 500, 0), NO);
            due("undo", x.undo(i % 8), NO);
            due("record", x.record(i % 2 == 0 ? 1201 + i : -i), NO);
            due("limit", x.limit(i % 2 == 0 ? 101 + i : -99 - i), NO);
            due("value", x.value(i % 2, i % 8, i % 6), NO);
            due("count", x.count(i % 6, 0, i % 8, 0), NO);
            due("pick", x.pick(i % 6, 1, i % 8, 100), NO);
            due("best", x.best(i % 8), NO);
            due("ahead", x.ahead(0, i % 8), NO);
            due("place", x.place(i % 8), NO);
            due("order", x.order(i % 8), NO);
            due("verdict", x.verdict(i % 8, 0), NO);
            due("told", x.told(6 + i), NO);
        }
        due("enter", x.enter(7), 0);
        due("told(0)", x.told(0), 1);
        due("told(1)", x.told(1), 0);
        due("told(4)", x.told(4), 0);
        due("told(5)", x.told(5), 100);
        due("jump", x.jump(0, 1200, 99), 0);
        due("best", x.best(0), 1200);
        due("place", x.place(0), 1);
        end();
    }

    private static void jumpersComeLate() {
        JumpBoard x = begin("jumpers come late");
        while (calls < LAST_CALL - 2 * JUMPERS) {
            due("told(0)", x.told(0), 0);
        }
        for (int jumper = 0; jumper < JUMPERS; jumper++) {
            due("enter", x.enter(992 + jumper), jumper);
            due("jump", x.jump(jumper, 1 + jumper, 0), 0);
        }
        end();
    }

    /** Jumper j's rounds are 500 + 10 j, + 1, .. + 5, each wind the round's number: the last one is the first place. */
    private static void fullBoard(JumpBoard x) {
        for (int jumper = 0; jumper < JUMPERS; jumper++) {
            due("enter", x.enter(100 + jumper), jumper);
            for (int round = 0; round < ROUNDS; round++) {
                due("jump", x.jump(jumper, 500 + 10 * jumper + round, round), round);
            }
        }
        due("limit", x.limit(4), 100);
        due("record", x.record(574), 0);
    }

    private static void fullBoardAnswersTheSame() {
        JumpBoard x = begin("a full board answers the same");
        fullBoard(x);
        for (int i = 0; i < 32; i++) {
            int j = i % JUMPERS;
            due("order", x.order(j), j);
            due("place", x.place(j), JUMPERS - j);
            due("best", x.best(j), 504 + 10 * j);
            due("ahead", x.ahead(j, 3), j > 3 ? 1 : 0);
            due("count", x.count(2, 0, j, 502 + 10 * j), 3);
            due("turned", x.turned(1, 1, j, 2), 4);
            due("longest", x.longest(4, 0, j, 504 + 10 * j), 4);
            due("skip", x.skip(1, 1, j, 1, 3), 4);
            due("pick", x.pick(2, 0, j, 1), 505 + 10 * j);
            due("fits", x.fits(0, 0, j, 1, 2), 1);
            due("value", x.value(0, j, 5), 505 + 10 * j);
            due("verdict", x.verdict(j, 5), 1 + 2 + 128 + (j == 7 ? 8 + 16 : 0));
            due("told(3)", x.told(3), 40);
            due("enter", x.enter(200 + i), NO);
        }
        while (calls < LAST_CALL) {
            due("verdict", x.verdict(7, 4), 1 + 2 + 4 + 8 + 32 + 64 + 128);
        }
        end();
    }

    private static void emptyBoardAnswersTheSame() {
        JumpBoard x = begin("a board without a round answers the same");
        due("enter", x.enter(1), 0);
        due("enter", x.enter(2), 1);
        for (int i = 0; i < 51; i++) {
            due("best", x.best(i % 2), 0);
            due("place", x.place(i % 2), 0);
            due("order", x.order(i % 2), i % 2);
            due("ahead", x.ahead(i % 2, 1 - i % 2), 0);
            due("verdict", x.verdict(i % 2, i % 6), 0);
            due("count", x.count(i % 6, 0, i % 2, 500), i % 6 == 5 ? 6 : 0);
            due("longest", x.longest(i % 6, 1, i % 2, 0), i % 6 == 5 ? 0 : 6);
            due("pick", x.pick(i % 6, 1, i % 2, 7), i % 6 == 5 ? 100 : 7);
            due("undo", x.undo(i % 2), NO);
            due("told(1)", x.told(1), 0);
        }
        end();
    }

    private static void twoOvertakeEachOther() {
        JumpBoard x = begin("two overtake each other");
        due("enter", x.enter(1), 0);
        due("enter", x.enter(2), 1);
        for (int i = 0; i < 51; i++) {
            int mark = 100 + 20 * i;
            due("jump", x.jump(0, mark, 100), 0);
            due("jump", x.jump(1, mark + 1, 100), 0);
            due("ahead", x.ahead(1, 0), 1);
            due("order", x.order(0), 0);
            due("jump", x.jump(0, mark + 2, 100), 1);
            due("ahead", x.ahead(1, 0), 0);
            due("order", x.order(0), 1);
            due("undo", x.undo(0), 1);
            due("undo", x.undo(0), 0);
            due("undo", x.undo(1), 0);
        }
        end();
    }

    private static void theLimitTurnsTheOrder() {
        JumpBoard x = begin("the limit turns the order");
        due("enter", x.enter(1), 0);
        due("enter", x.enter(2), 1);
        due("jump", x.jump(0, 700, 30), 0);
        due("jump", x.jump(1, 600, 10), 0);
        int was = 100;
        for (int i = 0; i < 127; i++) {
            boolean isLow = i % 3 != 0;
            int limit = isLow ? 10 + i % 20 : i % 2 == 0 ? 100 : 30;
            due("limit", x.limit(limit), was);
            due("ahead", x.ahead(0, 1), isLow ? 0 : 1);
            due("order", x.order(1), isLow ? 1 : 0);
            due("place", x.place(0), isLow ? 0 : 1);
            was = limit;
        }
        end();
    }

    /** The board of fullBoard(), asked and changed to and fro up to its 511th call, and then this call. */
    private static void last(String name, ToIntFunction<JumpBoard> call, int want) {
        JumpBoard x = begin("the last call is " + name);
        fullBoard(x);
        while (calls + 3 < LAST_CALL) {
            due("undo", x.undo(6), 5);
            due("jump", x.jump(6, 565, 5), 5);
            due("told(1)", x.told(1), 48);
        }
        while (calls + 1 < LAST_CALL) {
            due("told(0)", x.told(0), 8);
        }
        due(name, call.applyAsInt(x), want);
        end();
    }

    private static void eachCallIsTheLastOne() {
        last("enter", x -> x.enter(1), NO);
        last("jump", x -> x.jump(7, 500, 0), NO);
        last("undo", x -> x.undo(6), 5);
        last("record", x -> x.record(1), 574);
        last("limit", x -> x.limit(1), 4);
        last("value of a mark", x -> x.value(0, 6, 5), 565);
        last("value of a wind", x -> x.value(1, 7, 3), 3);
        last("fits", x -> x.fits(3, 0, 6, 5, 4), 1);
        last("count", x -> x.count(0, 0, 6, 565), 5);
        last("turned", x -> x.turned(0, 1, 6, 4), 1);
        last("longest", x -> x.longest(4, 1, 6, 2), 3);
        last("skip", x -> x.skip(0, 0, 6, 2, 565), 5);
        last("skip of all", x -> x.skip(1, 0, 6, 0, 565), 6);
        last("pick", x -> x.pick(2, 0, 6, 564), 565);
        last("best", x -> x.best(6), 564);
        last("ahead", x -> x.ahead(6, 5), 1);
        last("ahead of itself", x -> x.ahead(6, 6), 0);
        last("place", x -> x.place(6), 2);
        last("order", x -> x.order(6), 6);
        last("verdict", x -> x.verdict(6, 5), 131);
        last("told", x -> x.told(3), 40);
        last("a what that is not told", x -> x.told(6), NO);
        last("a jumper that is not there", x -> x.best(8), NO);
    }

    /** Two objects in turn, so that each has 512 calls when both have twice as many. */
    private static void objectsLeaveEachOtherAlone() {
        JumpBoard unused = new JumpBoard();
        JumpBoard other = new JumpBoard();
        JumpBoard x = begin("objects leave each other alone");
        due("enter", x.enter(5), 0);
        due("enter", other.enter(5), 0);
        due("jump", x.jump(0, 600, 5), 0);
        due("limit", other.limit(4), 100);
        for (int i = 0; i < 102; i++) {
            due("jump", x.jump(0, 700 + i, 5), 1);
            due("jump", other.jump(0, 500 - i, 4), 0);
            due("best", x.best(0), 700 + i);
            due("best", other.best(0), 500 - i);
            due("record", x.record(i + 1), i);
            due("record", other.record(1200 - i), i == 0 ? 0 : 1201 - i);
            due("undo", x.undo(0), 1);
            due("undo", other.undo(0), 0);
            due("verdict", x.verdict(0, 0), 1 + 2 + 4 + 8 + 16 + 128);
            due("verdict", other.verdict(0, 0), 0);
        }
        calls -= LAST_CALL;
        end();
        due("an object that was not used", unused.told(0), 0);
        due("an object that was not used", unused.told(4), 0);
        due("an object that was not used", unused.told(5), 100);
        due("an object that was not used", unused.enter(5), 0);
    }
}

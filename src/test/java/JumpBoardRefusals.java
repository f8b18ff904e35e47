import java.util.ArrayList;
import java.util.Arrays;
import java.util.List;
import java.util.function.Supplier;

/**
 * "A call that is REFUSED changes nothing": each argument of each call just outside and far outside, on boards without
 * jumpers, with some and with eight, and all that the other calls answer before it and behind it.
 */
public final class JumpBoardRefusals {
    private static final int MIN = Integer.MIN_VALUE;
    private static final int MAX = Integer.MAX_VALUE;
    private static final int SHOWN = 20;

    // An object may be used for 512 calls: a board is made by at most 60, and each part is asked twice on one object.
    private static final int PART = 220;

    // Beside the least and the greatest int: what comes back inside when it is multiplied by six or cut to fewer bits.
    private static final int[] FAR = {MIN, MIN + 1, -1431655766, -715827883, -65536, -65535, -256, -255, -1000,
        256, 257, 65536, 65537, 715827883, 1431655766, 1 << 30, MAX - 1, MAX};

    private enum Call {
        ENTER("bib"), JUMP("jumper mark wind"), UNDO("jumper"), RECORD("mark"), LIMIT("wind"),
        VALUE("what jumper round"), FITS("how what jumper round round"), COUNT("how what jumper v"),
        TURNED("how what jumper v"), LONGEST("how what jumper v"), SKIP("how what jumper round v"),
        PICK("how what jumper v"), BEST("jumper"), AHEAD("jumper jumper"), PLACE("jumper"), ORDER("jumper"),
        VERDICT("jumper round"), TOLD("told");

        private final String[] takes;

        Call(String takes) {
            this.takes = takes.split(" ");
        }

        int on(JumpBoard x, int[] a) {
            switch (this) {
                case ENTER: return x.enter(a[0]);
                case JUMP: return x.jump(a[0], a[1], a[2]);
                case UNDO: return x.undo(a[0]);
                case RECORD: return x.record(a[0]);
                case LIMIT: return x.limit(a[0]);
                case VALUE: return x.value(a[0], a[1], a[2]);
                case FITS: return x.fits(a[0], a[1], a[2], a[3], a[4]);
                case COUNT: return x.count(a[0], a[1], a[2], a[3]);
                case TURNED: return x.turned(a[0], a[1], a[2], a[3]);
                case LONGEST: return x.longest(a[0], a[1], a[2], a[3]);
                case SKIP: return x.skip(a[0], a[1], a[2], a[3], a[4]);
                case PICK: return x.pick(a[0], a[1], a[2], a[3]);
                case BEST: return x.best(a[0]);
                case AHEAD: return x.ahead(a[0], a[1]);
                case PLACE: return x.place(a[0]);
                case ORDER: return x.order(a[0]);
                case VERDICT: return x.verdict(a[0], a[1]);
                default: return x.told(a[0]);
            }
        }
    }

    private record Asked(Call call, int... a) {
        int on(JumpBoard x) {
            return call.on(x, a);
        }

        Asked with(int position, int value) {
            int[] other = a.clone();
            other[position] = value;
            return new Asked(call, other);
        }

        @Override
        public String toString() {
            return call + Arrays.toString(a);
        }
    }

    private record Setup(String name, int jumpers, Supplier<JumpBoard> make) { }

    private static int wrong = 0;

    public static void main(String[] args) {
        Setup some = new Setup("some", 3, JumpBoardRefusals::some);
        Setup[] setups = {
            new Setup("without jumpers", 0, JumpBoardRefusals::withoutJumpers),
            new Setup("one without rounds", 1, () -> entered(1)),
            some,
            new Setup("eight without rounds", 8, () -> entered(8)),
            new Setup("eight with all rounds", 8, JumpBoardRefusals::full)};
        insideIsTaken(some);
        for (Setup setup : setups) {
            outsideIsRefused(setup);
        }
        refusedByWhatIsThere(setups);
        System.out.println(wrong == 0 ? "refused calls change nothing" : wrong + " answers are not as due");
        if (wrong != 0) {
            System.exit(1);
        }
    }

    private static void due(String call, int got, int want) {
        if (got != want) {
            wrong++;
            if (wrong <= SHOWN) {
                System.out.println(call + " answered " + got + ", due is " + want);
            }
        }
    }

    // The boards.

    private static int bibOf(int jumper) {
        return 999 - 7 * jumper;
    }

    private static JumpBoard entered(int jumpers) {
        JumpBoard x = new JumpBoard();
        for (int jumper = 0; jumper < jumpers; jumper++) {
            x.enter(bibOf(jumper));
        }
        return x;
    }

    private static JumpBoard withoutJumpers() {
        JumpBoard x = new JumpBoard();
        x.record(640);
        x.limit(-3);
        return x;
    }

    /** The first has jumped all six rounds, the second none, the third some. */
    private static JumpBoard some() {
        JumpBoard x = entered(3);
        int[] marks = {500, 0, 1200, 500, 0, 1};
        int[] winds = {20, 0, 21, 100, 100, -99};
        for (int round = 0; round < 6; round++) {
            x.jump(0, marks[round], winds[round]);
        }
        x.jump(2, 700, 5);
        x.jump(2, 0, 99);
        x.jump(2, 50, 50);
        x.record(700);
        x.limit(20);
        return x;
    }

    private static JumpBoard full() {
        JumpBoard x = entered(8);
        for (int jumper = 0; jumper < 8; jumper++) {
            for (int round = 0; round < 6; round++) {
                x.jump(jumper, 600 + jumper * round % 5, 8 * round - 5 * jumper);
            }
        }
        x.record(602);
        x.limit(10);
        return x;
    }

    // What is inside and what is outside.

    private static int least(String kind) {
        return kind.equals("bib") ? 1 : kind.equals("wind") ? -99 : 0;
    }

    private static int most(String kind, int jumpers) {
        switch (kind) {
            case "bib": return 999;
            case "jumper": return jumpers - 1;
            case "mark": return 1200;
            case "wind": return 100;
            case "what": return 1;
            default: return 5;
        }
    }

    /** What v is, a mark or a wind, is told by the what in front of it. */
    private static String kindOf(Asked asked, int position) {
        String kind = asked.call().takes[position];
        return !kind.equals("v") ? kind : asked.a()[1] == 0 ? "mark" : "wind";
    }

    private static List<Integer> outside(String kind, int jumpers) {
        int least = least(kind);
        int most = most(kind, jumpers);
        List<Integer> all = new ArrayList<>(List.of(least - 1, most + 1));
        for (int far : FAR) {
            if (far < least - 1 || far > most + 1) {
                all.add(far);
            }
        }
        return all;
    }

    /** Calls with arguments inside on a board that has a third jumper with some rounds. */
    private static List<Asked> plainCalls() {
        List<Asked> all = new ArrayList<>();
        for (Call call : Call.values()) {
            for (int what = 0; what < (call.takes[0].equals("told") ? 6 : 2); what++) {
                int[] a = new int[call.takes.length];
                for (int i = 0; i < a.length; i++) {
                    a[i] = plain(call.takes[i], what);
                }
                all.add(new Asked(call, a));
            }
        }
        return all;
    }

    private static int plain(String kind, int what) {
        switch (kind) {
            case "bib": return 500;
            case "jumper": return 2;
            case "mark": return 600;
            case "wind": case "v": return 50;
            case "what": case "told": return what;
            case "how": return 5;
            default: return 3;
        }
    }

    /** Without this a class that refuses everything would do. */
    private static void insideIsTaken(Setup some) {
        for (Asked asked : plainCalls()) {
            due(asked + " is refused", asked.on(some.make().get()) == JumpBoard.REFUSED ? 1 : 0, 0);
            for (int i = 0; i < asked.a().length; i++) {
                String kind = kindOf(asked, i);
                int most = most(kind, some.jumpers());
                takenAtItsEdge(some, asked.with(i, least(kind)), i);
                takenAtItsEdge(some, asked.with(i, most), i);
            }
        }
    }

    private static void takenAtItsEdge(Setup some, Asked asked, int position) {
        boolean jumperCannot = asked.call().takes[position].equals("jumper")
            && (asked.call() == Call.JUMP || asked.call() == Call.UNDO) && asked.a()[position] != 2;
        boolean bibIsTaken = asked.call() == Call.ENTER && asked.a()[0] == bibOf(0);
        if (!jumperCannot && !bibIsTaken) {
            due(asked + " is refused", asked.on(some.make().get()) == JumpBoard.REFUSED ? 1 : 0, 0);
        }
    }

    private static void outsideIsRefused(Setup setup) {
        for (Asked asked : plainCalls()) {
            for (int i = 0; i < asked.a().length; i++) {
                for (int value : outside(kindOf(asked, i), setup.jumpers())) {
                    changesNothing(setup, asked.with(i, value));
                }
            }
            outsideTwice(setup, asked);
        }
    }

    /** Two wrong arguments must not make a right call of each other. */
    private static void outsideTwice(Setup setup, Asked asked) {
        for (int i = 0; i < asked.a().length; i++) {
            for (int j = i + 1; j < asked.a().length; j++) {
                for (int first : outside(kindOf(asked, i), setup.jumpers())) {
                    for (int second : outside(kindOf(asked, j), setup.jumpers())) {
                        Asked both = asked.with(i, first).with(j, second);
                        due(setup.name() + ": " + both, both.on(setup.make().get()), JumpBoard.REFUSED);
                    }
                }
            }
        }
    }

    /** Calls whose arguments are inside, refused by what stands on the board. */
    private static void refusedByWhatIsThere(Setup[] setups) {
        for (Setup setup : setups) {
            for (int jumper = 0; jumper < setup.jumpers(); jumper++) {
                changesNothing(setup, new Asked(Call.ENTER, bibOf(jumper)));
                if (setup.name().contains("without rounds")) {
                    changesNothing(setup, new Asked(Call.UNDO, jumper));
                }
                if (setup.name().equals("eight with all rounds")) {
                    changesNothing(setup, new Asked(Call.JUMP, jumper, 650, 3));
                }
            }
            if (setup.jumpers() == 8) {
                changesNothing(setup, new Asked(Call.ENTER, 1));
                changesNothing(setup, new Asked(Call.ENTER, 500));
            }
            if (setup.name().equals("some")) {
                changesNothing(setup, new Asked(Call.JUMP, 0, 650, 3));
                changesNothing(setup, new Asked(Call.UNDO, 1));
            }
        }
    }

    // Before and behind.

    private static void changesNothing(Setup setup, Asked refused) {
        String name = setup.name() + ": " + refused;
        List<Asked> questions = questions(setup.jumpers());
        for (int from = 0; from < questions.size(); from += PART) {
            List<Asked> part = questions.subList(from, Math.min(from + PART, questions.size()));
            JumpBoard x = setup.make().get();
            int[] before = answers(x, part);
            due(name, refused.on(x), JumpBoard.REFUSED);
            int[] behind = answers(x, part);
            for (int i = 0; i < before.length; i++) {
                due("behind " + name + ", " + part.get(i), behind[i], before[i]);
            }
        }
        List<Asked> changes = changes(setup.jumpers());
        JumpBoard untouched = setup.make().get();
        JumpBoard touched = setup.make().get();
        refused.on(touched);
        int[] want = answers(untouched, changes);
        int[] got = answers(touched, changes);
        for (int i = 0; i < want.length; i++) {
            due("behind " + name + ", " + changes.get(i), got[i], want[i]);
        }
    }

    private static int[] answers(JumpBoard x, List<Asked> calls) {
        int[] all = new int[calls.size()];
        for (int i = 0; i < all.length; i++) {
            all[i] = calls.get(i).on(x);
        }
        return all;
    }

    /** All that can be asked of marks, winds, rows and places, and some of each question by comparisons. */
    private static List<Asked> questions(int jumpers) {
        List<Asked> all = new ArrayList<>();
        for (int what = 0; what < 6; what++) {
            all.add(new Asked(Call.TOLD, what));
        }
        // One more than there are: a jumper that came by a refused call would be seen.
        for (int jumper = 0; jumper <= jumpers; jumper++) {
            all.add(new Asked(Call.BEST, jumper));
            all.add(new Asked(Call.PLACE, jumper));
            all.add(new Asked(Call.ORDER, jumper));
            for (int other = 0; other <= jumpers; other++) {
                all.add(new Asked(Call.AHEAD, jumper, other));
            }
            for (int round = 0; round < 6; round++) {
                all.add(new Asked(Call.VALUE, 0, jumper, round));
                all.add(new Asked(Call.VALUE, 1, jumper, round));
                all.add(new Asked(Call.VERDICT, jumper, round));
            }
            for (int how = 0; how < 6; how++) {
                int what = (how + jumper) % 2;
                int v = what == 0 ? 602 : 5;
                all.add(new Asked(Call.FITS, how, what, jumper, how, 5 - how));
                all.add(new Asked(Call.COUNT, how, what, jumper, v));
                all.add(new Asked(Call.TURNED, how, what, jumper, v));
                all.add(new Asked(Call.LONGEST, how, what, jumper, v));
                all.add(new Asked(Call.SKIP, how, what, jumper, how / 2, v));
                all.add(new Asked(Call.PICK, how, what, jumper, v));
            }
        }
        return all;
    }

    /** Calls that change the board, with questions between them. */
    private static List<Asked> changes(int jumpers) {
        List<Asked> all = new ArrayList<>();
        all.add(new Asked(Call.RECORD, 333));
        all.add(new Asked(Call.LIMIT, 33));
        for (int jumper = 0; jumper <= jumpers; jumper++) {
            all.add(new Asked(Call.ENTER, bibOf(jumper)));
            all.add(new Asked(Call.JUMP, jumper, 333, 33));
            all.add(new Asked(Call.JUMP, jumper, 0, 100));
            for (int round = 0; round < 6; round++) {
                all.add(new Asked(Call.VERDICT, jumper, round));
            }
            for (int left = 6; left >= 0; left--) {
                all.add(new Asked(Call.UNDO, jumper));
            }
        }
        for (int bib : new int[] {500, 1, 2, 998}) {
            all.add(new Asked(Call.ENTER, bib));
            all.add(new Asked(Call.TOLD, 0));
        }
        all.add(new Asked(Call.RECORD, 0));
        all.add(new Asked(Call.LIMIT, 100));
        return all;
    }
}

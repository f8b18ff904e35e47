import java.util.ArrayList;
import java.util.Arrays;
import java.util.Collections;
import java.util.Comparator;
import java.util.List;

/** Long runs of calls, each answered by the class and by a model that is written from the document anew. */
public final class JumpBoardAgainstModel {
    private static final int RUNS = 3000;
    private static final int CALLS_OF_AN_OBJECT = 512;
    private static final int KINDS = 18;
    private static final int SHOWN = 20;

    private static final int[] ODD = {Integer.MIN_VALUE, -1001, -101, -100, -99, -1, 0, 6, 8, 9, 99, 100, 101,
        999, 1000, 1200, 1201, Integer.MAX_VALUE};

    // Seeded by the run's number, so that each run is the same every time.
    private static long seed;
    private static int wrong = 0;

    public static void main(String[] args) {
        int[] taken = new int[KINDS];
        for (int run = 0; run < RUNS; run++) {
            play(run, taken);
        }
        for (int kind = 0; kind < KINDS; kind++) {
            if (taken[kind] < RUNS) {
                wrong++;
                System.out.println("kind " + kind + " was hardly ever taken: " + taken[kind]);
            }
        }
        System.out.println(wrong == 0 ? "class and model agree" : wrong + " answers are not the model's");
        if (wrong != 0) {
            System.exit(1);
        }
    }

    private static void play(int run, int[] taken) {
        seed = run * 7919L + 17;
        JumpBoard board = new JumpBoard();
        Model model = new Model();
        for (int call = 0; call < CALLS_OF_AN_OBJECT; call++) {
            int kind = kindOf(call, run);
            int[] a = arguments(kind, run);
            int got = ask(board, kind, a);
            Integer due = model.ask(kind, a);
            int want = due == null ? JumpBoard.REFUSED : due;
            if (due != null) {
                taken[kind]++;
            }
            if (got != want) {
                wrong++;
                if (wrong <= SHOWN) {
                    System.out.println("run " + run + ", call " + call + ": kind " + kind
                        + Arrays.toString(a) + " answered " + got + ", due is " + want);
                }
            }
        }
    }

    private static int below(int bound) {
        seed = seed * 6364136223846793005L + 1442695040888963407L;
        return (int) ((seed >>> 33) % bound);
    }

    /**
     * In most runs jumpers come at first, and jumps come often, so that questions meet a board with something on it; in
     * half of the runs undo comes as often, so that the board still changes in the last calls.
     */
    private static int kindOf(int call, int run) {
        if (call < 6 && run / 12 % 4 != 3) {
            return 0;
        }
        if (below(3) == 0) {
            return run / 6 % 2 == 1 && below(2) == 0 ? 2 : 1;
        }
        return below(KINDS);
    }

    private static int mark(int run) {
        if (below(5) == 0) {
            return 0;
        }
        // Few different marks make rows that are the same for long, or to their ends.
        return run % 3 == 0 ? 1 + below(1200) : run % 3 == 1 ? 700 + below(3) : 99 + below(3);
    }

    private static int wind(int run) {
        if (below(5) == 0) {
            return 100;
        }
        return run % 2 == 0 ? below(199) - 99 : below(5) - 2;
    }

    private static int[] arguments(int kind, int run) {
        int jumper = below(8);
        int what = below(2);
        int how = below(6);
        int v = what == 0 ? mark(run) : wind(run);
        int[] a = plainArguments(kind, run, new int[] {jumper, what, how, v});
        if (below(12) == 0) {
            a[below(a.length)] = ODD[below(ODD.length)];
        }
        return a;
    }

    private static int[] plainArguments(int kind, int run, int[] some) {
        int jumper = some[0];
        int what = some[1];
        int how = some[2];
        int v = some[3];
        switch (kind) {
            case 0: return new int[] {1 + below(20)};
            case 1: return new int[] {jumper, mark(run), wind(run)};
            case 2: return new int[] {jumper};
            case 3: return new int[] {mark(run)};
            case 4: return new int[] {wind(run)};
            case 5: return new int[] {what, jumper, below(6)};
            case 6: return new int[] {how, what, jumper, below(6), below(6)};
            case 7: case 8: case 9: case 11: return new int[] {how, what, jumper, v};
            case 10: return new int[] {how, what, jumper, below(6), v};
            case 13: return new int[] {jumper, below(8)};
            case 15: return new int[] {below(8)};
            case 16: return new int[] {jumper, below(6)};
            case 17: return new int[] {below(6)};
            default: return new int[] {jumper};
        }
    }

    private static int ask(JumpBoard x, int kind, int[] a) {
        switch (kind) {
            case 0: return x.enter(a[0]);
            case 1: return x.jump(a[0], a[1], a[2]);
            case 2: return x.undo(a[0]);
            case 3: return x.record(a[0]);
            case 4: return x.limit(a[0]);
            case 5: return x.value(a[0], a[1], a[2]);
            case 6: return x.fits(a[0], a[1], a[2], a[3], a[4]);
            case 7: return x.count(a[0], a[1], a[2], a[3]);
            case 8: return x.turned(a[0], a[1], a[2], a[3]);
            case 9: return x.longest(a[0], a[1], a[2], a[3]);
            case 10: return x.skip(a[0], a[1], a[2], a[3], a[4]);
            case 11: return x.pick(a[0], a[1], a[2], a[3]);
            case 12: return x.best(a[0]);
            case 13: return x.ahead(a[0], a[1]);
            case 14: return x.place(a[0]);
            case 15: return x.order(a[0]);
            case 16: return x.verdict(a[0], a[1]);
            default: return x.told(a[0]);
        }
    }

    /** A none is null here, and so is the answer of a call that is refused. */
    private static final class Model {
        private record Round(Integer mark, Integer wind) { }

        private static final Round NOT_JUMPED = new Round(null, null);

        private final List<Integer> bibs = new ArrayList<>();
        private final List<List<Round>> boards = new ArrayList<>();
        private Integer record = null;
        private Integer limit = null;

        Integer ask(int kind, int[] a) {
            switch (kind) {
                case 0: return enter(a[0]);
                case 1: return jump(a[0], a[1], a[2]);
                case 2: return undo(a[0]);
                case 3: return record(a[0]);
                case 4: return limit(a[0]);
                case 5: return isValue(a[0], a[1], a[2]) ? told(a[0], value(a[0], a[1], a[2])) : null;
                case 6: return fits(a[0], a[1], a[2], a[3], a[4]);
                case 7: case 8: case 9: case 11: return question(kind, a[0], a[1], a[2], 0, a[3]);
                case 10: return question(kind, a[0], a[1], a[2], a[3], a[4]);
                case 12: return isIn(a[0], boards.size()) ? told(0, best(a[0])) : null;
                case 13: return isIn(a[0], boards.size()) && isIn(a[1], boards.size())
                    ? (compare(a[0], a[1]) > 0 ? 1 : 0) : null;
                case 14: return isIn(a[0], boards.size()) ? place(a[0]) : null;
                case 15: return isIn(a[0], boards.size()) ? order().get(a[0]) : null;
                case 16: return isValue(0, a[0], a[1]) ? verdict(a[0], a[1]) : null;
                default: return told(a[0]);
            }
        }

        private static boolean isIn(int i, int bound) {
            return 0 <= i && i < bound;
        }

        private static boolean isSaid(int what, int v) {
            return what == 0 ? 0 <= v && v <= 1200 : -99 <= v && v <= 100;
        }

        private static Integer heard(int what, int v) {
            return v == (what == 0 ? 0 : 100) ? null : (Integer) v;
        }

        private static int told(int what, Integer v) {
            return v != null ? v : what == 0 ? 0 : 100;
        }

        private boolean isValue(int what, int jumper, int round) {
            return isIn(what, 2) && isIn(jumper, boards.size()) && isIn(round, 6);
        }

        private Round round(int jumper, int round) {
            List<Round> jumped = boards.get(jumper);
            return round < jumped.size() ? jumped.get(round) : NOT_JUMPED;
        }

        private Integer value(int what, int jumper, int round) {
            return what == 0 ? round(jumper, round).mark() : round(jumper, round).wind();
        }

        private Integer enter(int bib) {
            if (bibs.size() == 8 || bib < 1 || bib > 999 || bibs.contains(bib)) {
                return null;
            }
            bibs.add(bib);
            boards.add(new ArrayList<>());
            return bibs.size() - 1;
        }

        private Integer jump(int jumper, int mark, int wind) {
            if (!isIn(jumper, boards.size()) || !isSaid(0, mark) || !isSaid(1, wind)
                || boards.get(jumper).size() == 6) {
                return null;
            }
            boards.get(jumper).add(new Round(heard(0, mark), heard(1, wind)));
            return boards.get(jumper).size() - 1;
        }

        private Integer undo(int jumper) {
            if (!isIn(jumper, boards.size()) || boards.get(jumper).isEmpty()) {
                return null;
            }
            List<Round> jumped = boards.get(jumper);
            jumped.remove(jumped.size() - 1);
            return jumped.size();
        }

        private Integer record(int mark) {
            if (!isSaid(0, mark)) {
                return null;
            }
            int was = told(0, record);
            record = heard(0, mark);
            return was;
        }

        private Integer limit(int wind) {
            if (!isSaid(1, wind)) {
                return null;
            }
            int was = told(1, limit);
            limit = heard(1, wind);
            return was;
        }

        private static boolean fit(int how, Integer v, Integer other) {
            if (v == null || other == null) {
                return how == 5;
            }
            int sign = Integer.signum(v.compareTo(other));
            // Which of less, same, greater each comparison takes.
            String[] taken = {"<", "<=", ">", "=>", "=", "<>"};
            return taken[how].indexOf("<=>".charAt(sign + 1)) >= 0;
        }

        private Integer fits(int how, int what, int jumper, int a, int b) {
            if (!isIn(how, 6) || !isValue(what, jumper, a) || !isIn(b, 6)) {
                return null;
            }
            return fit(how, value(what, jumper, a), value(what, jumper, b)) ? 1 : 0;
        }

        private Integer question(int kind, int how, int what, int jumper, int from, int said) {
            if (!isIn(how, 6) || !isValue(what, jumper, from) || !isSaid(what, said)) {
                return null;
            }
            Integer v = heard(what, said);
            StringBuilder fitting = new StringBuilder();
            StringBuilder turned = new StringBuilder();
            Integer held = v;
            for (int round = 0; round < 6; round++) {
                Integer next = value(what, jumper, round);
                fitting.append(fit(how, next, v) ? 'y' : 'n');
                turned.append(fit(how, v, next) ? 'y' : 'n');
                held = fit(how, next, held) ? next : held;
            }
            switch (kind) {
                case 7: return fitting.toString().replace("n", "").length();
                case 8: return turned.toString().replace("n", "").length();
                case 9: return longestPart(fitting.toString());
                case 10: return (fitting + "n").indexOf("n", from);
                default: return told(what, held);
            }
        }

        private static int longestPart(String fitting) {
            int longest = 0;
            for (String part : fitting.split("y")) {
                longest = Math.max(longest, part.length());
            }
            return longest;
        }

        private boolean isLegal(Round round) {
            return round.mark() != null && (round.wind() == null || limit == null || round.wind() <= limit);
        }

        private List<Integer> row(int jumper) {
            List<Integer> row = new ArrayList<>();
            for (Round round : boards.get(jumper)) {
                if (isLegal(round)) {
                    row.add(round.mark());
                }
            }
            row.sort(Collections.reverseOrder());
            return row;
        }

        private Integer best(int jumper) {
            return row(jumper).isEmpty() ? null : row(jumper).get(0);
        }

        /** More than 0 if a is ahead of b, less than 0 if b is ahead of a. */
        private int compare(int a, int b) {
            List<Integer> rowA = row(a);
            List<Integer> rowB = row(b);
            for (int i = 0; i < rowA.size() && i < rowB.size(); i++) {
                if (!rowA.get(i).equals(rowB.get(i))) {
                    return rowA.get(i).compareTo(rowB.get(i));
                }
            }
            return rowA.size() - rowB.size();
        }

        private int place(int jumper) {
            if (best(jumper) == null) {
                return 0;
            }
            int place = 1;
            for (int other = 0; other < boards.size(); other++) {
                place += compare(other, jumper) > 0 ? 1 : 0;
            }
            return place;
        }

        private List<Integer> order() {
            List<Integer> order = new ArrayList<>();
            List<Integer> withBest = new ArrayList<>();
            for (int jumper = 0; jumper < boards.size(); jumper++) {
                (best(jumper) == null ? order : withBest).add(jumper);
            }
            Comparator<Integer> byRows = this::compare;
            withBest.sort(byRows);
            order.addAll(withBest);
            return order;
        }

        private int verdict(int jumper, int number) {
            Round round = round(jumper, number);
            boolean leads = round.mark() != null;
            for (int i = 0; i < number; i++) {
                leads = leads && !fit(3, round(jumper, i).mark(), round.mark());
            }
            boolean[] bits = {round.mark() != null, round.wind() != null, isLegal(round),
                fit(3, round.mark(), record), fit(2, round.mark(), record), fit(4, round.mark(), record),
                fit(1, round.wind(), limit), leads};
            int sum = 0;
            for (int bit = 0; bit < bits.length; bit++) {
                sum += bits[bit] ? 1 << bit : 0;
            }
            return sum;
        }

        private Integer told(int what) {
            int jumped = 0;
            int unmarked = 0;
            int legal = 0;
            for (List<Round> rounds : boards) {
                for (Round round : rounds) {
                    jumped++;
                    unmarked += round.mark() == null ? 1 : 0;
                    legal += isLegal(round) ? 1 : 0;
                }
            }
            Integer[] all = {boards.size(), jumped, unmarked, legal, told(0, record), told(1, limit)};
            return isIn(what, all.length) ? all[what] : null;
        }
    }
}

/** Promises 4 (source), 5 (stage) and 6 (flags). */
public final class LineTest {
    private static final Checks CHECKS = new Checks();

    public static void main(String[] args) {
        sources();
        wrongSources();
        aSourceReplacesTheLine();
        stagesCount();
        wrongStages();
        edgesOfStages();
        stagesOfUsedLines();
        flagsOfSources();
        flagsOfStages();
        CHECKS.end();
    }

    private static String listed(StageLines x) {
        x.run(9, 0, 0);
        return Checks.keptOf(x);
    }

    private static void sources() {
        StageLines x = Checks.withBasket(3, 1);
        x.source(0, -5, 99, 7);
        x.put(2);
        CHECKS.due("4: the basket as it is when run", listed(x), "3 1 2");
        x.source(1, 5, 3, 99);
        CHECKS.due("4: a range", listed(x), "5 6 7");
        x.source(1, Integer.MAX_VALUE, 2, 0);
        CHECKS.due("4: a range wraps", listed(x), "2147483647 -2147483648");
        x.source(1, 5, 0, 0);
        CHECKS.due("4: a range of none", listed(x), "");
        x.source(1, 0, 40, 0);
        CHECKS.due("4: a range of 40", x.run(0, 0, 0), 40);
        Checks.line(x, Checks.endless(3, -2, 1), Checks.op(5, 0, 4));
        CHECKS.due("4: endless", listed(x), "3 -5 11 -21");
        Checks.line(x, Checks.endless(Integer.MAX_VALUE, 2, 3), Checks.op(5, 0, 3));
        CHECKS.due("4: endless wraps", listed(x), "2147483647 1 5");
    }

    private static void wrongSources() {
        StageLines x = Checks.line(new StageLines(), Checks.range(2, 3), Checks.op(7, 0, 0));
        CHECKS.refuses("4: kind -1", IllegalArgumentException.class, () -> x.source(-1, 0, 0, 0));
        CHECKS.refuses("4: kind 3", IllegalArgumentException.class, () -> x.source(3, 0, 0, 0));
        CHECKS.refuses("4: b -1 of a range", IllegalArgumentException.class, () -> x.source(1, 0, -1, 0));
        CHECKS.refuses("4: b 41 of a range", IllegalArgumentException.class, () -> x.source(1, 0, 41, 0));
        CHECKS.due("4: a refused source leaves the line", x.flags(), 7);
        CHECKS.due("4: and its stage", x.seen(0), 0);
        CHECKS.due("4: and it can be run", listed(x), "2 3 4");
        CHECKS.refuses("4: a wrong source", IllegalArgumentException.class, () -> x.source(1, 0, 41, 0));
        CHECKS.refuses("4: and the line stays used", IllegalStateException.class, () -> x.run(0, 0, 0));
        StageLines none = new StageLines();
        CHECKS.refuses("4: wrong on a new object", IllegalArgumentException.class, () -> none.source(9, 0, 0, 0));
        CHECKS.refuses("4: makes no line", IllegalStateException.class, () -> none.flags());
    }

    private static void aSourceReplacesTheLine() {
        StageLines x = Checks.line(new StageLines(), Checks.range(0, 9), Checks.op(0, 0, 1), Checks.op(5, 0, 2));
        x.source(0, 0, 0, 0);
        CHECKS.due("4: a new line has no stage", x.seen(0), -1);
        CHECKS.due("4: a new line has its own flags", x.flags(), 1);
        CHECKS.due("4: a new line counts its stages anew", x.stage(7, 0, 0), 1);
        CHECKS.due("4: a new stage has seen nothing", x.seen(0), 0);
    }

    private static void stagesCount() {
        StageLines x = new StageLines();
        x.source(1, 0, 5, 0);
        for (int k = 1; k <= 6; k++) {
            CHECKS.due("5: stage number " + k, x.stage(7, 99, -99), k);
        }
        CHECKS.refuses("5: the seventh", IllegalArgumentException.class, () -> x.stage(7, 0, 0));
        CHECKS.due("5: the refused one is not there", x.seen(6), -1);
        CHECKS.due("5: the line can be run", x.run(0, 0, 0), 5);
        CHECKS.refuses("5: used comes ahead of full", IllegalStateException.class, () -> x.stage(7, 0, 0));
    }

    private static void wrongStages() {
        int[][] wrong = {{-1, 0, 0}, {10, 0, 0}, {0, -1, 0}, {0, 4, 0}, {1, -1, 0}, {1, 5, 0}, {8, -1, 0},
            {8, 5, 0}, {9, -1, 0}, {9, 5, 0}, {2, 0, -1}, {2, 0, 5}, {5, 0, -1}, {5, 0, 101}, {6, 0, -1},
            {6, 0, 101}, {Integer.MIN_VALUE, 0, 0}, {Integer.MAX_VALUE, 0, 0}};
        StageLines x = new StageLines();
        x.source(1, 0, 5, 0);
        for (int[] s : wrong) {
            String what = "stage(" + s[0] + ", " + s[1] + ", " + s[2] + ")";
            CHECKS.refuses("5: " + what, IllegalArgumentException.class, () -> x.stage(s[0], s[1], s[2]));
            CHECKS.refuses("5: " + what + " without a line", IllegalStateException.class,
                () -> new StageLines().stage(s[0], s[1], s[2]));
        }
        CHECKS.due("5: none of them is there", x.stage(7, 0, 0), 1);
    }

    private static void edgesOfStages() {
        int[][] right = {{0, 0, -9}, {0, 3, 0}, {1, 0, 0}, {1, 4, -9}, {8, 0, 0}, {8, 4, 9}, {9, 0, 0}, {9, 4, 9},
            {2, 9, 0}, {2, -9, 4}, {5, 9, 0}, {5, -9, 100}, {6, 9, 0}, {6, -9, 100}, {3, 9, 999}, {4, -9, -999},
            {7, 9, 999}};
        for (int[] s : right) {
            StageLines x = new StageLines();
            x.source(1, 0, 5, 0);
            CHECKS.due("5: stage(" + s[0] + ", " + s[1] + ", " + s[2] + ")",
                Checks.told(() -> x.stage(s[0], s[1], s[2])), "1");
        }
    }

    private static void stagesOfUsedLines() {
        StageLines x = new StageLines();
        x.source(1, 0, 5, 0);
        x.run(0, 0, 0);
        CHECKS.refuses("5: behind run", IllegalStateException.class, () -> x.stage(7, 0, 0));
        CHECKS.refuses("5: a wrong one behind run", IllegalStateException.class, () -> x.stage(11, 0, 0));
        CHECKS.due("5: is not there", x.seen(0), -1);
        x.source(1, 0, 5, 0);
        x.parts(0, 0, 0);
        CHECKS.refuses("5: behind parts", IllegalStateException.class, () -> x.stage(7, 0, 0));
    }

    private static void flagsOfSources() {
        StageLines x = new StageLines();
        CHECKS.due("6: of a basket", Checks.line(x, Checks.basket()).flags(), 1);
        CHECKS.due("6: of a range", Checks.line(x, Checks.range(0, 3)).flags(), 7);
        CHECKS.due("6: of an endless one", Checks.line(x, Checks.endless(0, 1, 1)).flags(), 0);
        Checks.line(x, Checks.range(0, 3)).run(0, 0, 0);
        CHECKS.due("6: of a used line", x.flags(), 7);
    }

    /** Each op behind a RANGE (all but ENDS EARLY), and behind ENDLESS and LIMIT (ENDS EARLY alone). */
    private static void flagsOfStages() {
        int[] behindRange = {1, 6, 0, 6, 7, 15, 7, 7, 14, 6};
        int[] behindLimit = {8, 8, 8, 12, 10, 8, 8, 8, 8, 8};
        int[] behindEndless = {0, 0, 0, 4, 2, 8, 0, 0, 8, 0};
        int[] behindBasket = {1, 0, 0, 4, 3, 9, 1, 1, 8, 0};
        StageLines x = new StageLines();
        for (int op = 0; op <= 9; op++) {
            int[] stage = Checks.op(op, 0, 1);
            CHECKS.due("6: RANGE and op " + op, Checks.line(x, Checks.range(0, 3), stage).flags(), behindRange[op]);
            CHECKS.due("6: ENDLESS and op " + op,
                Checks.line(x, Checks.endless(0, 0, 0), stage).flags(), behindEndless[op]);
            CHECKS.due("6: BASKET and op " + op, Checks.line(x, Checks.basket(), stage).flags(), behindBasket[op]);
            CHECKS.due("6: ENDLESS, LIMIT and op " + op,
                Checks.line(x, Checks.endless(0, 0, 0), Checks.op(5, 0, 9), stage).flags(), behindLimit[op]);
        }
        CHECKS.due("6: in the order of the stages", Checks.line(x, Checks.range(0, 3), Checks.op(4, 0, 0),
            Checks.op(0, 0, 1), Checks.op(3, 0, 0)).flags(), 4);
    }
}

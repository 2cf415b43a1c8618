/** The sentences of promises 4 to 6 that name a boundary case, each with a test of its own. */
public final class LineEdgesTest {
    private static final Checks CHECKS = new Checks();
    private static final int MIN = Integer.MIN_VALUE;
    private static final int MAX = Integer.MAX_VALUE;
    private static final int[] ANY_NUMBERS = {MIN, -1, 0, 41, 101, MAX};
    private static final int[] PEEK = {7, 0, 0};

    public static void main(String[] args) {
        theBasketAsItIsWhenRun();
        aRangeOfB();
        endless();
        inPlaceOfTheOneThereIs();
        nothingIsLeftOfTheOneThereWas();
        kindIsNotAsSaid();
        rangeIsNotAsSaid();
        numbersThatAreNotNamed();
        howManyStagesItHas();
        upToSixStages();
        opIsNotAsSaid();
        firstNumberIsNotAsSaid();
        secondNumberIsNotAsSaid();
        numbersOfStagesThatAreNotNamed();
        noLineForAStage();
        usedLineForAStage();
        noLineForFlags();
        CHECKS.end();
    }

    private static void gives(String what, int[] source, String want, int[]... stages) {
        StageLines x = Checks.line(new StageLines(), source, stages);
        CHECKS.due(what, Checks.listed(x, false), want);
        if (source[0] != 2) {
            Checks.line(x, source, stages);
            CHECKS.due(what + " in parts", Checks.listed(x, true), want);
        }
    }

    // Promise 4 and the SOURCES.

    private static void theBasketAsItIsWhenRun() {
        CHECKS.sentence("SOURCES: 0 the BASKET (as it is when the line is run)");
        for (boolean inParts : Checks.BOTH_WAYS) {
            StageLines x = Checks.withBasket(1, 2);
            Checks.line(x, Checks.basket(), PEEK);
            x.put(3);
            CHECKS.due("one more" + Checks.way(inParts), Checks.listed(x, inParts), "1 2 3");
            x.put(4);
            CHECKS.due("what comes later is not kept", Checks.keptOf(x), "1 2 3");
            CHECKS.due("nor seen", x.seen(0), 3);
            Checks.line(x, Checks.basket(), PEEK);
            x.empty();
            CHECKS.due("none" + Checks.way(inParts), Checks.listed(x, inParts), "");
            Checks.line(x, Checks.basket(), PEEK);
            x.put(9);
            x.put(8);
            CHECKS.due("others" + Checks.way(inParts), Checks.listed(x, inParts), "9 8");
        }
    }

    private static void aRangeOfB() {
        CHECKS.sentence("1 RANGE: a, a + 1, .., b of them (0 .. 40)");
        gives("0 of them", Checks.range(7, 0), "");
        gives("1 of them", Checks.range(7, 1), "7");
        gives("2 of them", Checks.range(-1, 2), "-1 0");
        gives("40 of them, the last", Checks.range(-20, 40), "19", Checks.op(6, 0, 39));
        gives("from the least", Checks.range(MIN, 2), "-2147483648 -2147483647");
        gives("wrapping", Checks.range(MAX - 1, 4), "2147483646 2147483647 -2147483648 -2147483647");
    }

    private static void endless() {
        CHECKS.sentence("2 ENDLESS: a, then each a * b + c of the one before. (Ints that wrap everywhere.)");
        int[] four = Checks.op(5, 0, 4);
        gives("b 0", Checks.endless(7, 0, 3), "7 3 3 3", four);
        gives("b 1", Checks.endless(7, 1, -3), "7 4 1 -2", four);
        gives("c 0", Checks.endless(3, -2, 0), "3 -6 12 -24", four);
        gives("all of them", Checks.endless(2, 3, 1), "2 7 22 67", four);
        gives("a sum wraps", Checks.endless(MAX, 1, 1), "2147483647 -2147483648 -2147483647 -2147483646", four);
        gives("a product wraps", Checks.endless(65536, 65536, 5), "65536 5 327685 327685", four);
        gives("the least times -1", Checks.endless(MIN, -1, 0), "-2147483648 -2147483648 -2147483648 -2147483648",
            four);
    }

    private static void inPlaceOfTheOneThereIs() {
        CHECKS.sentence("4: A new line with a source, in place of the one there is");
        StageLines x = Checks.line(new StageLines(), Checks.range(0, 9), PEEK, PEEK, PEEK, PEEK, PEEK,
            Checks.op(5, 0, 2));
        Checks.line(x, Checks.endless(0, 1, 1));
        CHECKS.due("of a full line no flag stays", x.flags(), 0);
        CHECKS.due("and no stage", x.seen(0), -1);
        CHECKS.due("there is room again", x.stage(7, 0, 0), 1);
        CHECKS.refuses("an endless run", UnsupportedOperationException.class, () -> x.run(0, 0, 0));
        Checks.line(x, Checks.range(3, 2), PEEK);
        CHECKS.due("the new one is not SPENT", x.seen(0), 0);
        CHECKS.due("nor used", Checks.listed(x, false), "3 4");
        Checks.line(x, Checks.range(3, 2));
        CHECKS.due("behind a used one the same source begins anew", Checks.listed(x, false), "3 4");
        Checks.line(x, Checks.endless(5, 2, 0), Checks.op(5, 0, 2)).run(0, 0, 0);
        Checks.line(x, Checks.endless(5, 2, 0), Checks.op(5, 0, 2));
        CHECKS.due("an endless one too", Checks.listed(x, false), "5 10");
    }

    private static void nothingIsLeftOfTheOneThereWas() {
        CHECKS.sentence("4: A new line .. in place of the one there is: its stages begin anew");
        int[][] remembering = {{3, 0, 0}, {4, 0, 0}, {5, 0, 2}, {6, 0, 2}, {8, 2, 3}, {9, 2, 3}};
        String[] want = {"1 2 3 4", "1 2 3 4", "1 2", "3 4", "1 2", "3 4"};
        for (boolean inParts : Checks.BOTH_WAYS) {
            for (int i = 0; i < remembering.length; i++) {
                StageLines x = new StageLines();
                for (int turn = 1; turn <= 3; turn++) {
                    Checks.line(x, Checks.range(1, 4), remembering[i]);
                    CHECKS.due("op " + remembering[i][0] + ", line " + turn + Checks.way(inParts),
                        Checks.listed(x, inParts), want[i]);
                }
            }
        }
    }

    private static void kindIsNotAsSaid() {
        CHECKS.sentence("4: IllegalArgumentException: kind is not 0 .. 2");
        int[] kinds = {-1, 3, MIN, MAX};
        for (int kind : kinds) {
            refusedSourceLeavesAll(kind, 5);
        }
        for (int kind = 0; kind <= 2; kind++) {
            final int k = kind;
            CHECKS.due("kind " + k, Checks.nameOfThrown(() -> new StageLines().source(k, 0, 0, 0)), "nothing");
        }
    }

    private static void rangeIsNotAsSaid() {
        CHECKS.sentence("4: or b of a RANGE not 0 .. 40");
        int[] wrong = {-1, 41, MIN, MAX};
        for (int b : wrong) {
            refusedSourceLeavesAll(1, b);
        }
        CHECKS.due("b 0", Checks.nameOfThrown(() -> new StageLines().source(1, 0, 0, 0)), "nothing");
        CHECKS.due("b 40", Checks.nameOfThrown(() -> new StageLines().source(1, 0, 40, 0)), "nothing");
    }

    private static void refusedSourceLeavesAll(int kind, int b) {
        String what = "source(" + kind + ", 0, " + b + ", 0)";
        StageLines x = new StageLines();
        CHECKS.refuses(what, IllegalArgumentException.class, () -> x.source(kind, 0, b, 0));
        CHECKS.refuses(what + " makes no line", IllegalStateException.class, () -> x.flags());
        Checks.line(x, Checks.range(2, 3), PEEK, Checks.op(5, 0, 2));
        CHECKS.refuses(what + " with a line", IllegalArgumentException.class, () -> x.source(kind, 0, b, 0));
        CHECKS.due(what + " leaves its flags", x.flags(), 15);
        CHECKS.due(what + " leaves its stages", x.stage(7, 0, 0), 3);
        CHECKS.due(what + " leaves its source", Checks.listed(x, false), "2 3");
        CHECKS.refuses(what + " with a used line", IllegalArgumentException.class, () -> x.source(kind, 0, b, 0));
        CHECKS.refuses(what + " leaves it used", IllegalStateException.class, () -> x.run(0, 0, 0));
        CHECKS.due(what + " leaves what it has seen", Checks.seenOf(x), "2 2 2");
    }

    private static void numbersThatAreNotNamed() {
        CHECKS.sentence("4: (numbers that are not named are not looked at)");
        for (int v : ANY_NUMBERS) {
            StageLines x = Checks.withBasket(6);
            CHECKS.due("of a BASKET", Checks.nameOfThrown(() -> x.source(0, v, v, v)), "nothing");
            CHECKS.due("which has what it has", Checks.listed(x, false), "6");
            CHECKS.due("c of a RANGE", Checks.nameOfThrown(() -> x.source(1, 4, 2, v)), "nothing");
            CHECKS.due("which goes by 1", Checks.listed(x, false), "4 5");
            CHECKS.due("a of a RANGE", Checks.nameOfThrown(() -> x.source(1, v, 1, 0)), "nothing");
            CHECKS.due("which begins there", x.run(4, 0, 0), v);
            CHECKS.due("of ENDLESS", Checks.nameOfThrown(() -> x.source(2, v, v, v)), "nothing");
            CHECKS.due("which begins there too", x.run(4, 0, 0), v);
        }
    }

    // Promise 5 and the LINE.

    private static void howManyStagesItHas() {
        CHECKS.sentence("5: A stage is put at the line's end: how many it has");
        StageLines x = new StageLines();
        x.source(1, 1, 2, 0);
        CHECKS.due("the first", x.stage(0, 0, 1), 1);
        CHECKS.due("the second", x.stage(0, 1, 10), 2);
        CHECKS.due("the third", x.stage(0, 2, 0), 3);
        CHECKS.due("in their order", Checks.listed(x, false), "-20 -30");
    }

    private static void upToSixStages() {
        CHECKS.sentence("5: IllegalArgumentException: it has 6; A LINE .. has up to 6 STAGES");
        for (boolean inParts : Checks.BOTH_WAYS) {
            StageLines x = new StageLines();
            x.source(1, 0, 2, 0);
            for (int k = 1; k <= 6; k++) {
                CHECKS.due("stage number " + k, x.stage(0, 0, 1), k);
            }
            for (int op = 0; op <= 9; op++) {
                final int one = op;
                CHECKS.refuses("the seventh, op " + op, IllegalArgumentException.class, () -> x.stage(one, 0, 1));
            }
            CHECKS.due("no flag of the refused ones", x.flags(), 1);
            CHECKS.due("none of them is there", x.seen(6), -1);
            CHECKS.due("all six work" + Checks.way(inParts), Checks.listed(x, inParts), "6 7");
            CHECKS.due("all six see", Checks.seenOf(x), "2 2 2 2 2 2");
        }
    }

    /** A stage that is refused, and the line with one stage as it was. */
    private static void refusedStageLeavesTheLine(int op, int a, int n) {
        String what = "stage(" + op + ", " + a + ", " + n + ")";
        StageLines x = Checks.line(new StageLines(), Checks.range(2, 3), Checks.op(0, 0, 1));
        CHECKS.refuses(what, IllegalArgumentException.class, () -> x.stage(op, a, n));
        CHECKS.due(what + " leaves the flags", x.flags(), 1);
        CHECKS.due(what + " leaves one stage", x.seen(1), -1);
        CHECKS.due(what + " leaves it open", x.stage(7, 0, 0), 2);
        CHECKS.due(what + " leaves it to be run", Checks.listed(x, false), "3 4 5");
    }

    private static void takesStage(int op, int a, int n) {
        StageLines x = Checks.line(new StageLines(), Checks.basket());
        CHECKS.due("stage(" + op + ", " + a + ", " + n + ")", Checks.told(() -> x.stage(op, a, n)), "1");
    }

    private static void opIsNotAsSaid() {
        CHECKS.sentence("5: op is not 0 .. 9");
        int[] wrong = {-1, 10, MIN, MAX};
        for (int op : wrong) {
            refusedStageLeavesTheLine(op, 0, 1);
        }
        for (int op = 0; op <= 9; op++) {
            takesStage(op, 0, 1);
        }
    }

    private static void firstNumberIsNotAsSaid() {
        CHECKS.sentence("5: a (of 0, 1, 8, 9) .. is not as said");
        int[] wrongForMap = {-1, 4, MIN, MAX};
        for (int a : wrongForMap) {
            refusedStageLeavesTheLine(0, a, 1);
        }
        takesStage(0, 0, 1);
        takesStage(0, 3, 1);
        int[] testing = {1, 8, 9};
        int[] wrongForTests = {-1, 5, MIN, MAX};
        for (int op : testing) {
            for (int a : wrongForTests) {
                refusedStageLeavesTheLine(op, a, 1);
            }
            takesStage(op, 0, 1);
            takesStage(op, 4, 1);
        }
    }

    private static void secondNumberIsNotAsSaid() {
        CHECKS.sentence("5: or n (of 2, 5, 6) is not as said");
        int[] wrongForFlat = {-1, 5, MIN, MAX};
        for (int n : wrongForFlat) {
            refusedStageLeavesTheLine(2, 0, n);
        }
        takesStage(2, 0, 0);
        takesStage(2, 0, 4);
        int[] cutting = {5, 6};
        int[] wrongForCuts = {-1, 101, MIN, MAX};
        for (int op : cutting) {
            for (int n : wrongForCuts) {
                refusedStageLeavesTheLine(op, 0, n);
            }
            takesStage(op, 0, 0);
            takesStage(op, 0, 100);
        }
    }

    private static void numbersOfStagesThatAreNotNamed() {
        CHECKS.sentence("5: a (of 0, 1, 8, 9) or n (of 2, 5, 6), and no others");
        for (int v : ANY_NUMBERS) {
            for (int op = 2; op <= 7; op++) {
                takesStage(op, v, 3);
            }
            int[] withFreeN = {0, 1, 3, 4, 7, 8, 9};
            for (int op : withFreeN) {
                takesStage(op, 2, v);
            }
        }
    }

    private static void noLineForAStage() {
        CHECKS.sentence("5: IllegalStateException: there is no line");
        StageLines x = new StageLines();
        CHECKS.refuses("a right one", IllegalStateException.class, () -> x.stage(7, 0, 0));
        CHECKS.refuses("a wrong one", IllegalStateException.class, () -> x.stage(10, 0, 0));
        x.source(1, 0, 3, 0);
        CHECKS.due("is not there later", x.seen(0), -1);
    }

    private static void usedLineForAStage() {
        CHECKS.sentence("5: IllegalStateException: .. or it was used");
        for (boolean inParts : Checks.BOTH_WAYS) {
            StageLines x = Checks.line(new StageLines(), Checks.range(1, 2), PEEK);
            Checks.ended(x, inParts, 0, 0, 0);
            CHECKS.refuses("behind one" + Checks.way(inParts), IllegalStateException.class, () -> x.stage(7, 0, 0));
            CHECKS.refuses("a wrong one", IllegalStateException.class, () -> x.stage(-1, 0, 0));
            CHECKS.due("it has one stage yet", Checks.seenOf(x), "2");
            CHECKS.due("and its flags", x.flags(), 7);
        }
    }

    // Promise 6.

    private static void noLineForFlags() {
        CHECKS.sentence("6: IllegalStateException: there is no line");
        StageLines x = new StageLines();
        CHECKS.refuses("flags() of a new object", IllegalStateException.class, () -> x.flags());
        CHECKS.refuses("a source", IllegalArgumentException.class, () -> x.source(3, 0, 0, 0));
        CHECKS.refuses("flags() behind a refused source", IllegalStateException.class, () -> x.flags());
        Checks.line(x, Checks.range(1, 2)).run(0, 0, 0);
        CHECKS.due("a used line is a line", Checks.told(() -> x.flags()), "7");
        Checks.line(x, Checks.basket(), Checks.op(5, 0, 0));
        CHECKS.refuses("FIRST of none", java.util.NoSuchElementException.class, () -> x.parts(4, 0, 0));
        CHECKS.due("one without a result is a line", Checks.told(() -> x.flags()), "9");
        Checks.line(x, Checks.endless(1, 1, 1), Checks.op(4, 0, 0));
        CHECKS.refuses("ENDLESS", UnsupportedOperationException.class, () -> x.run(0, 0, 0));
        CHECKS.due("a spent line is a line", Checks.told(() -> x.flags()), "2");
    }
}

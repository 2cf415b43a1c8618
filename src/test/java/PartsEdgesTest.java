/** The sentences of IN PARTS and of promises 9 and 10 that name a boundary case. */
public final class PartsEdgesTest {
    private static final Checks CHECKS = new Checks();
    private static final int MIN = Integer.MIN_VALUE;
    private static final int MAX = Integer.MAX_VALUE;
    private static final String SPENT = "UnsupportedOperationException: ";
    private static final int[] PEEK = {7, 0, 0};
    private static final int[] SORTED = {4, 0, 0};
    private static final int[] FLAT = {2, 0, 4};
    private static final int[] TEN = Checks.range(1, 10);
    private static final int[] FORTY = Checks.range(0, 40);

    public static void main(String[] args) {
        allIsSeen();
        noneIsAsked();
        inOrder();
        the601stLetGo();
        seenTillThen();
        stepsAreNotCounted();
        thePoolIsWorkedThroughFirst();
        thePoolChangesNoAnswer();
        bothGiveTheSame();
        seenOfNoStage();
        seenAsFarAsItWasRun();
        CHECKS.end();
    }

    private static String answerAndSeen(int end, int a, int n, int[] source, int[]... stages) {
        StageLines x = Checks.line(Checks.withBasket(2, 1, 2), source, stages);
        return Checks.ended(x, true, end, a, n) + ": " + Checks.seenOf(x);
    }

    private static void counts(String what, String want, int[] source, int[]... stages) {
        CHECKS.due(what, answerAndSeen(0, 0, 0, source, stages), want);
    }

    private static void allIsSeen() {
        CHECKS.sentence("each stage gets all that the one ahead of it let go (all is SEEN)");
        counts("MAP", "10: 10 10", TEN, Checks.op(0, 0, 1), PEEK);
        counts("FILTER", "3: 10 3", TEN, Checks.op(1, 4, 3), PEEK);
        counts("FLAT", "40: 10 40", TEN, FLAT, PEEK);
        counts("FLAT of none", "0: 10 0", TEN, Checks.op(2, 0, 0), PEEK);
        counts("DISTINCT", "2: 3 2", Checks.basket(), Checks.op(3, 0, 0), PEEK);
        counts("SORTED", "3: 3 3", Checks.basket(), SORTED, PEEK);
        counts("LIMIT", "3: 10 3", TEN, Checks.op(5, 0, 3), PEEK);
        counts("LIMIT of none", "0: 10 0", TEN, Checks.op(5, 0, 0), PEEK);
        counts("SKIP", "6: 10 6", TEN, Checks.op(6, 0, 4), PEEK);
        counts("PEEK", "10: 10 10", TEN, PEEK, PEEK);
        counts("WHILE", "3: 10 3", TEN, Checks.op(8, 2, 4), PEEK);
        counts("FROM", "7: 10 7", TEN, Checks.op(9, 2, 4), PEEK);
        counts("of no element", "0: 0 0 0", Checks.range(5, 0), SORTED, FLAT, PEEK);
        counts("of 40, by six", "40: 40 40 40 40 40 40", FORTY, PEEK, SORTED, PEEK, SORTED, PEEK, PEEK);
    }

    private static void noneIsAsked() {
        CHECKS.sentence("none is asked");
        counts("a LIMIT behind", "1: 10 10 10", TEN, PEEK, PEEK, Checks.op(5, 0, 1));
        counts("a LIMIT of none behind", "0: 10 10", TEN, PEEK, Checks.op(5, 0, 0));
        counts("a WHILE behind", "0: 10 10", TEN, PEEK, Checks.op(8, 2, 1));
        counts("a LIMIT behind a FLAT", "1: 10 40", TEN, FLAT, Checks.op(5, 0, 1));
        counts("a LIMIT behind a SORTED and a PEEK", "1: 10 10 10", TEN, SORTED, PEEK, Checks.op(5, 0, 1));
        CHECKS.due("FIRST", answerAndSeen(4, 0, 0, TEN, PEEK), "1: 10");
        CHECKS.due("ANY", answerAndSeen(5, 0, 1, TEN, PEEK), "1: 10");
        CHECKS.due("ALL", answerAndSeen(6, 1, 1, TEN, PEEK), "0: 10");
        CHECKS.due("NONE", answerAndSeen(7, 0, 1, TEN, PEEK), "0: 10");
        CHECKS.due("FIRST behind a FLAT", answerAndSeen(4, 0, 0, TEN, FLAT, PEEK), "1: 10 40");
    }

    private static void inOrder() {
        CHECKS.sentence("in order");
        StageLines x = Checks.withBasket(9, MIN, 5, MAX, 0, 3, 5);
        x.pool(1, 4, 12345);
        Checks.line(x, Checks.basket());
        CHECKS.due("LIST", Checks.listed(x, true), "9 -2147483648 5 2147483647 0 3 5");
        Checks.line(x, Checks.basket());
        CHECKS.due("FIRST", x.parts(4, 0, 0), 9);
        Checks.line(x, Checks.basket(), Checks.op(5, 0, 3), Checks.op(6, 0, 1));
        CHECKS.due("LIMIT and SKIP", Checks.listed(x, true), "-2147483648 5");
        Checks.line(x, Checks.range(1, 3));
        CHECKS.due("FOLD", x.parts(8, 2, 0), (31 + 2) * 31 + 3);
        Checks.line(x, Checks.range(1, 2), Checks.op(2, 0, 2));
        CHECKS.due("FLAT", Checks.listed(x, true), "1 2 2 3");
    }

    private static void the601stLetGo() {
        CHECKS.sentence("as soon as a stage lets the 601st go, the run is SPENT");
        counts("150 * 4 = 600", "600: 40 160 150 600", FORTY, FLAT, Checks.op(6, 0, 10), FLAT, PEEK);
        counts("151 * 4", SPENT + "40 160 151 0", FORTY, FLAT, Checks.op(6, 0, 9), FLAT, PEEK);
        int[] two = Checks.op(2, 0, 2);
        int[] three = Checks.op(2, 0, 3);
        int[] one = Checks.op(2, 0, 1);
        counts("320 * 1", "320: 40 160 320 320", FORTY, FLAT, two, one, PEEK);
        counts("298 * 2 = 596", "596: 40 160 149 298 596", FORTY, FLAT, Checks.op(6, 0, 11), two, two, PEEK);
        counts("300 * 2 = 600", "600: 40 160 150 300 600", FORTY, FLAT, Checks.op(6, 0, 10), two, two, PEEK);
        counts("302 * 2", SPENT + "40 160 151 301 0", FORTY, FLAT, Checks.op(6, 0, 9), two, two, PEEK);
        counts("200 * 3 = 600", "600: 40 80 240 200 600", FORTY, two, three, Checks.op(6, 0, 40), three, PEEK);
        counts("201 * 3", SPENT + "40 80 240 201 0", FORTY, two, three, Checks.op(6, 0, 39), three, PEEK);
        counts("600 * 1 = 600", "600: 40 160 150 600 600", FORTY, FLAT, Checks.op(6, 0, 10), FLAT, one, PEEK);
        counts("600 by all that lets all go", "600: 40 160 150 600 600 600", FORTY, FLAT, Checks.op(6, 0, 10), FLAT,
            SORTED, Checks.op(0, 0, 1), PEEK);
    }

    private static void seenTillThen() {
        CHECKS.sentence("(that stage has SEEN those that it had looked at till then, what comes behind nothing)");
        counts("160 * 4", SPENT + "40 160 151 0 0 0", FORTY, FLAT, PEEK, FLAT, PEEK, SORTED, PEEK);
        counts("152 * 4", SPENT + "38 151 0", Checks.range(0, 38), FLAT, FLAT, PEEK);
        counts("160 * 3 and 2", SPENT + "40 160 301 0", FORTY, FLAT, Checks.op(2, 0, 3), Checks.op(2, 0, 2), PEEK);
        counts("though it lets go what nobody wants", SPENT + "40 151 0", FORTY, FLAT, FLAT, Checks.op(5, 0, 0));
        CHECKS.due("nor does the end", answerAndSeen(4, 0, 0, FORTY, FLAT, FLAT), SPENT + "40 151");
        CHECKS.due("ahead of no result", answerAndSeen(2, 0, 0, FORTY, FLAT, FLAT, Checks.op(5, 0, 0)),
            SPENT + "40 151 0");
    }

    private static void stepsAreNotCounted() {
        CHECKS.sentence("as soon as a stage lets the 601st go: each stage for itself");
        counts("160 and 160 and 160 and 160", "160: 40 160 160 160 160", FORTY, FLAT, SORTED, SORTED, SORTED, PEEK);
        counts("one after the other that would be SPENT", "592: 37 148 592", Checks.range(0, 37), FLAT, FLAT, PEEK);
        StageLines x = Checks.line(new StageLines(), Checks.range(0, 37), FLAT, FLAT, PEEK);
        CHECKS.due("as it is here", Checks.ended(x, false, 0, 0, 0) + ": " + Checks.seenOf(x), SPENT + "29 115 456");
    }

    private static void thePoolIsWorkedThroughFirst() {
        CHECKS.sentence("9: (the pool is worked through first)");
        StageLines x = new StageLines();
        x.pool(20, 1, 1);
        Checks.line(x, FORTY, FLAT, FLAT);
        CHECKS.due("SPENT", Checks.ended(x, true, 0, 0, 0), "UnsupportedOperationException");
        CHECKS.due("but worked through", Checks.pooledOf(x), "3 2 0 2 0 0 0");
        Checks.line(x, Checks.basket());
        CHECKS.due("no result", Checks.ended(x, true, 3, 0, 0), "NoSuchElementException");
        CHECKS.due("but worked through too", Checks.pooledOf(x), "1 1 0 1 0 0 0");
        Checks.line(x, Checks.range(0, 21), Checks.op(5, 0, 0));
        CHECKS.due("nobody wants any", Checks.ended(x, true, 0, 0, 0), "0");
        CHECKS.due("but of all of the source", Checks.pooledOf(x), "3 2 0 2 0 0 0");
    }

    private static void thePoolChangesNoAnswer() {
        CHECKS.sentence("9: As run(), but in parts: whatever the pool");
        int[][] pools = {{1, 1, 0}, {1, 4, 7}, {20, 4, -1}, {3, 3, MIN}, {7, 2, MAX}};
        for (int[] p : pools) {
            StageLines x = Checks.withBasket(5, 3, 9, 1);
            x.pool(p[0], p[1], p[2]);
            Checks.line(x, Checks.basket(), Checks.op(2, 0, 2), Checks.op(3, 0, 0));
            CHECKS.due("a list", Checks.listed(x, true), "5 6 3 4 9 10 1 2");
        }
    }

    private static void bothGiveTheSame() {
        CHECKS.sentence("both give the same, if neither is SPENT");
        for (int op = 0; op <= 9; op++) {
            for (int end = 0; end <= 10; end++) {
                StageLines x = Checks.withBasket(3, -1, 3, 0, 2, MIN, MAX, 0);
                Checks.line(x, Checks.basket(), Checks.op(op, 1, 3));
                String inTurn = Checks.ended(x, false, end, 1, 3) + ": " + Checks.keptOf(x);
                Checks.line(x, Checks.basket(), Checks.op(op, 1, 3));
                String inParts = Checks.ended(x, true, end, 1, 3) + ": " + Checks.keptOf(x);
                CHECKS.due("op " + op + ", end " + end, inParts, inTurn);
            }
        }
    }

    private static void seenOfNoStage() {
        CHECKS.sentence("10: -1 when there is none");
        StageLines x = new StageLines();
        int[] none = {MIN, -1, 0, 1, 5, 6, MAX};
        for (int k : none) {
            CHECKS.due("no line, seen(" + k + ")", x.seen(k), -1);
        }
        Checks.line(x, TEN);
        CHECKS.due("a line without stages", x.seen(0), -1);
        Checks.line(x, TEN, PEEK, PEEK, PEEK, PEEK, PEEK, PEEK).run(0, 0, 0);
        CHECKS.due("the sixth", x.seen(5), 10);
        int[] others = {MIN, -1, 6, 7, MAX};
        for (int k : others) {
            CHECKS.due("six stages, seen(" + k + ")", x.seen(k), -1);
        }
        Checks.line(x, TEN, PEEK);
        CHECKS.due("the new line's only one", x.seen(0), 0);
        CHECKS.due("the line before had one there", x.seen(1), -1);
    }

    private static void seenAsFarAsItWasRun() {
        CHECKS.sentence("10: as far as it was run");
        for (boolean inParts : Checks.BOTH_WAYS) {
            StageLines x = Checks.line(new StageLines(), TEN, PEEK);
            CHECKS.due("not yet" + Checks.way(inParts), x.seen(0), 0);
            Checks.ended(x, inParts, 0, 0, 0);
            CHECKS.due("then" + Checks.way(inParts), x.seen(0), 10);
            CHECKS.due("asked again" + Checks.way(inParts), x.seen(0), 10);
            CHECKS.refuses("a wrong source", IllegalArgumentException.class, () -> x.source(1, 0, 41, 0));
            CHECKS.due("which leaves it" + Checks.way(inParts), x.seen(0), 10);
            Checks.line(x, TEN, PEEK);
            CHECKS.due("of the next line none" + Checks.way(inParts), x.seen(0), 0);
        }
    }
}

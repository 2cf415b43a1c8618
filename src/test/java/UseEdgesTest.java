/** The sentences of promises 7 and 9 on refused calls and used lines, each with a test of its own. */
public final class UseEdgesTest {
    private static final Checks CHECKS = new Checks();
    private static final int MIN = Integer.MIN_VALUE;
    private static final int MAX = Integer.MAX_VALUE;
    private static final int[] PEEK = {7, 0, 0};
    private static final int[] FLAT = {2, 0, 4};
    private static final String USED = "IllegalStateException";
    private static final String WRONG = "IllegalArgumentException";
    private static final String SPENT = "UnsupportedOperationException";
    private static final String NO_RESULT = "NoSuchElementException";

    public static void main(String[] args) {
        noLine();
        usedOnce();
        usedBySpent();
        usedWithoutResult();
        endIsNotAsSaid();
        firstNumberIsNotAsSaid();
        secondNumberIsNotAsSaid();
        numbersThatAreNotLookedAt();
        endlessHasNoParts();
        spent();
        CHECKS.end();
    }

    private static void noLine() {
        CHECKS.sentence("7, 9: IllegalStateException: there is no line");
        for (boolean inParts : Checks.BOTH_WAYS) {
            StageLines x = Checks.withBasket(1, 2);
            CHECKS.due("a right end" + Checks.way(inParts), Checks.ended(x, inParts, 0, 0, 0), USED);
            CHECKS.due("a wrong end" + Checks.way(inParts), Checks.ended(x, inParts, 11, 0, 0), USED);
            CHECKS.refuses("a wrong source", IllegalArgumentException.class, () -> x.source(3, 0, 0, 0));
            CHECKS.due("behind that" + Checks.way(inParts), Checks.ended(x, inParts, 0, 0, 0), USED);
            CHECKS.due("nothing was pooled", Checks.pooledOf(x), "0 0 0 0 0 0 0");
            Checks.line(x, Checks.basket());
            CHECKS.due("the line that comes then is not used", Checks.ended(x, inParts, 0, 0, 0), "2");
        }
    }

    /** Nothing can be done with x's line any more, and all that can be asked of it stays. */
    private static void isUsed(String what, StageLines x, int stages) {
        String seen = Checks.seenOf(x);
        int flags = x.flags();
        String kept = Checks.keptOf(x);
        String pooled = Checks.pooledOf(x);
        CHECKS.due(what + ", then run()", Checks.ended(x, false, 0, 0, 0), USED);
        CHECKS.due(what + ", then parts()", Checks.ended(x, true, 9, 0, 0), USED);
        CHECKS.due(what + ", then a wrong end", Checks.ended(x, false, -1, 0, 0), USED);
        CHECKS.due(what + ", then a wrong end in parts", Checks.ended(x, true, 10, 0, 0), USED);
        CHECKS.due(what + ", then stage()", Checks.told(() -> x.stage(7, 0, 0)), USED);
        CHECKS.due(what + ": its stages are as they were", x.seen(stages), -1);
        CHECKS.due(what + ": seen() is as it was", Checks.seenOf(x), seen);
        CHECKS.due(what + ": flags() is as it was", x.flags(), flags);
        CHECKS.due(what + ": kept() is as it was", Checks.keptOf(x), kept);
        CHECKS.due(what + ": pooled() is as it was", Checks.pooledOf(x), pooled);
    }

    private static void usedOnce() {
        CHECKS.sentence("it is used once");
        for (boolean inParts : Checks.BOTH_WAYS) {
            for (int end = 0; end <= 10; end++) {
                StageLines x = Checks.line(new StageLines(), Checks.range(4, 3), PEEK);
                Checks.ended(x, inParts, end, 0, 4);
                isUsed("end " + end + Checks.way(inParts), x, 1);
            }
        }
        StageLines endless = Checks.line(new StageLines(), Checks.endless(4, 3, 3), Checks.op(5, 0, 2));
        CHECKS.due("ENDLESS", endless.run(0, 0, 0), 2);
        isUsed("ENDLESS", endless, 1);
    }

    private static void usedBySpent() {
        CHECKS.sentence("it is used once (also by a run that is SPENT ..)");
        StageLines x = Checks.line(new StageLines(), Checks.endless(1, 1, 1), PEEK);
        CHECKS.due("ENDLESS", Checks.ended(x, false, 0, 0, 0), SPENT);
        isUsed("ENDLESS", x, 1);
        for (boolean inParts : Checks.BOTH_WAYS) {
            Checks.line(x, Checks.range(0, 40), FLAT, FLAT, PEEK);
            CHECKS.due("FLAT" + Checks.way(inParts), Checks.ended(x, inParts, 9, 0, 0), SPENT);
            isUsed("FLAT" + Checks.way(inParts), x, 3);
        }
    }

    private static void usedWithoutResult() {
        CHECKS.sentence("it is used once (also by a run that .. has no result)");
        for (boolean inParts : Checks.BOTH_WAYS) {
            for (int end = 2; end <= 4; end++) {
                StageLines x = Checks.line(new StageLines(), Checks.range(4, 3), Checks.op(1, 0, 0));
                CHECKS.due("end " + end + Checks.way(inParts), Checks.ended(x, inParts, end, 0, 0), NO_RESULT);
                CHECKS.due("all was looked at", x.seen(0), 3);
                isUsed("end " + end + Checks.way(inParts), x, 1);
            }
        }
    }

    /** Refused both ways, with the line, what is kept and what was pooled as they were. */
    private static void refusedEndLeavesTheLine(int end, int a, int n) {
        String what = "end (" + end + ", " + a + ", " + n + ")";
        for (boolean inParts : Checks.BOTH_WAYS) {
            StageLines x = Checks.line(new StageLines(), Checks.range(7, 9));
            x.parts(9, 0, 0);
            String pooled = Checks.pooledOf(x);
            Checks.line(x, Checks.range(2, 3), PEEK);
            CHECKS.due(what + Checks.way(inParts), Checks.ended(x, inParts, end, a, n), WRONG);
            CHECKS.due(what + " sees nothing" + Checks.way(inParts), x.seen(0), 0);
            CHECKS.due(what + " keeps nothing" + Checks.way(inParts), Checks.keptOf(x), "7 8 9 10 11 12 13 14 15");
            CHECKS.due(what + " pools nothing" + Checks.way(inParts), Checks.pooledOf(x), pooled);
            CHECKS.due(what + " leaves it open" + Checks.way(inParts), Checks.told(() -> x.stage(0, 0, 1)), "2");
            CHECKS.due(what + " again" + Checks.way(!inParts), Checks.ended(x, !inParts, end, a, n), WRONG);
            CHECKS.due(what + " leaves it to be used" + Checks.way(inParts), Checks.listed(x, inParts), "3 4 5");
        }
    }

    private static void takesEnd(int end, int a, int n) {
        for (boolean inParts : Checks.BOTH_WAYS) {
            StageLines x = Checks.line(new StageLines(), Checks.range(2, 3));
            String answer = Checks.ended(x, inParts, end, a, n);
            CHECKS.due("end (" + end + ", " + a + ", " + n + ") is refused" + Checks.way(inParts),
                answer.equals(WRONG) ? 1 : 0, 0);
        }
    }

    private static void endIsNotAsSaid() {
        CHECKS.sentence("7: IllegalArgumentException: end is not 0 .. 10 .. then the line isn't used");
        int[] wrong = {-1, 11, MIN, MAX};
        for (int end : wrong) {
            refusedEndLeavesTheLine(end, 0, 1);
        }
        for (int end = 0; end <= 10; end++) {
            takesEnd(end, 0, 1);
        }
    }

    private static void firstNumberIsNotAsSaid() {
        CHECKS.sentence("7: or a (of 5 .. 8: 0 .. 4, for 8 0 .. 2) .. is not as said: then the line isn't used");
        int[] wrongForTests = {-1, 5, MIN, MAX};
        for (int end = 5; end <= 7; end++) {
            for (int a : wrongForTests) {
                refusedEndLeavesTheLine(end, a, 1);
            }
            for (int a = 0; a <= 4; a++) {
                takesEnd(end, a, 1);
            }
        }
        int[] wrongForFold = {-1, 3, 4, MIN, MAX};
        for (int a : wrongForFold) {
            refusedEndLeavesTheLine(8, a, 1);
        }
        for (int a = 0; a <= 2; a++) {
            takesEnd(8, a, 1);
        }
    }

    private static void secondNumberIsNotAsSaid() {
        CHECKS.sentence("7: or n (of 10) is not as said (n 1 .. 8): then the line isn't used");
        int[] wrong = {0, 9, -1, MIN, MAX};
        for (int n : wrong) {
            refusedEndLeavesTheLine(10, 0, n);
        }
        for (int n = 1; n <= 8; n++) {
            takesEnd(10, 0, n);
        }
    }

    private static void numbersThatAreNotLookedAt() {
        CHECKS.sentence("7: a (of 5 .. 8 ..) or n (of 10), and no others");
        int[] any = {MIN, -1, 0, 5, 9, MAX};
        for (int v : any) {
            int[] withFreeA = {0, 1, 2, 3, 4, 9, 10};
            for (int end : withFreeA) {
                takesEnd(end, v, 3);
            }
            for (int end = 0; end <= 9; end++) {
                takesEnd(end, 1, v);
            }
        }
    }

    private static void endlessHasNoParts() {
        CHECKS.sentence("9: also IllegalArgumentException, the line not being used, when its source is ENDLESS");
        for (int end = 0; end <= 10; end++) {
            StageLines x = Checks.line(new StageLines(), Checks.range(5, 2));
            x.parts(9, 0, 0);
            Checks.line(x, Checks.endless(2, 1, 1), Checks.op(5, 0, 3));
            CHECKS.due("end " + end, Checks.ended(x, true, end, 0, 1), WRONG);
            CHECKS.due("the LIMIT has seen nothing", x.seen(0), 0);
            CHECKS.due("nothing is kept", Checks.keptOf(x), "5 6");
            CHECKS.due("nothing is pooled", x.pooled(0), 1);
            CHECKS.due("it is open", Checks.told(() -> x.stage(0, 0, 1)), "2");
            CHECKS.due("it can be run from its first on", Checks.listed(x, false), "3 4 5");
            CHECKS.due("used comes ahead of ENDLESS", Checks.ended(x, true, end, 0, 1), USED);
        }
        StageLines none = Checks.line(new StageLines(), Checks.endless(2, 1, 1), Checks.op(5, 0, 0));
        CHECKS.due("also when nobody wants any", Checks.ended(none, true, 0, 0, 0), WRONG);
        CHECKS.due("also with a wrong end", Checks.ended(none, true, 11, 0, 0), WRONG);
        CHECKS.due("run() is not refused", Checks.ended(none, false, 0, 0, 0), "0");
    }

    private static void spent() {
        CHECKS.sentence("7, 9: UnsupportedOperationException: SPENT");
        int[] wantAll = {0, 1, 2, 3, 8, 9, 10};
        for (int end : wantAll) {
            StageLines x = Checks.line(new StageLines(), Checks.endless(1, 1, 1));
            CHECKS.due("ENDLESS, end " + end, Checks.ended(x, false, end, 0, 1), SPENT);
        }
        for (int end = 0; end <= 10; end++) {
            StageLines x = Checks.line(new StageLines(), Checks.range(0, 40), FLAT, FLAT);
            CHECKS.due("640 in parts, end " + end, Checks.ended(x, true, end, 0, 1), SPENT);
        }
        StageLines x = Checks.line(new StageLines(), Checks.endless(1, 1, 1));
        CHECKS.due("SPENT", Checks.ended(x, false, 0, 0, 0), SPENT);
        Checks.line(x, Checks.range(1, 2));
        CHECKS.due("the next one is not", Checks.ended(x, false, 0, 0, 0), "2");
    }
}

import java.util.NoSuchElementException;

/** The sentences on the ENDS, and promise 11 on what they keep, that name a boundary case; run both ways. */
public final class EndEdgesTest {
    private static final Checks CHECKS = new Checks();
    private static final int MIN = Integer.MIN_VALUE;
    private static final int MAX = Integer.MAX_VALUE;
    private static final String NO_RESULT = "NoSuchElementException";

    public static void main(String[] args) {
        counts();
        sums();
        leastAndGreatest();
        firsts();
        matches();
        folds();
        lists();
        tallies();
        resultsOfNone();
        keptNumbersThatAreNot();
        keptOfTheLatest();
        keptOfWhatCameToItsEnd();
        CHECKS.end();
    }

    private static int[] numbers(int... v) {
        return v;
    }

    private static void gives(String what, int end, int a, int n, int[] basket, String want) {
        for (boolean inParts : Checks.BOTH_WAYS) {
            StageLines x = Checks.line(Checks.withBasket(basket), Checks.basket());
            CHECKS.due(what + Checks.way(inParts), Checks.ended(x, inParts, end, a, n), want);
        }
    }

    private static void counts() {
        CHECKS.sentence("0 COUNT");
        gives("of none", 0, 0, 0, numbers(), "0");
        gives("of the same", 0, 0, 0, numbers(5, 5), "2");
        gives("numbers are not looked at", 0, MIN, MAX, numbers(5), "1");
    }

    private static void sums() {
        CHECKS.sentence("1 SUM; (Ints that wrap everywhere.)");
        gives("of none", 1, 0, 0, numbers(), "0");
        gives("MAX and 1", 1, 0, 0, numbers(MAX, 1), "-2147483648");
        gives("MIN and -1", 1, 0, 0, numbers(MIN, -1), "2147483647");
        gives("numbers are not looked at", 1, MIN, MAX, numbers(5), "5");
    }

    private static void leastAndGreatest() {
        CHECKS.sentence("2 LEAST");
        gives("above 0", 2, 0, 0, numbers(9, 8), "8");
        gives("the greatest there is", 2, 0, 0, numbers(MAX), "2147483647");
        gives("far from one another", 2, 0, 0, numbers(MAX, MIN, 0), "-2147483648");
        gives("numbers are not looked at", 2, MIN, MAX, numbers(5), "5");
        CHECKS.sentence("3 GREATEST");
        gives("below 0", 3, 0, 0, numbers(-9, -8), "-8");
        gives("the least there is", 3, 0, 0, numbers(MIN), "-2147483648");
        gives("far from one another", 3, 0, 0, numbers(MIN, MAX, 0), "2147483647");
        gives("numbers are not looked at", 3, MIN, MAX, numbers(5), "5");
    }

    private static void firsts() {
        CHECKS.sentence("4 FIRST");
        gives("of one", 4, 0, 0, numbers(0), "0");
        gives("of two", 4, 0, 0, numbers(MIN, 3), "-2147483648");
        gives("numbers are not looked at", 4, MIN, MAX, numbers(5), "5");
    }

    private static void matches() {
        CHECKS.sentence("5 ANY: 1 if one passes a and n, otherwise 0");
        gives("of none", 5, 1, 0, numbers(), "0");
        gives("the first", 5, 0, 1, numbers(1, 2, 2), "1");
        gives("the last", 5, 0, 1, numbers(2, 2, 1), "1");
        gives("none of three", 5, 0, 1, numbers(2, 2, 2), "0");
        CHECKS.sentence("6 ALL: 1 if all pass");
        gives("of none", 6, 0, 1, numbers(), "1");
        gives("all of three", 6, 0, 1, numbers(1, 1, 1), "1");
        gives("all but the first", 6, 0, 1, numbers(2, 1, 1), "0");
        gives("all but the last", 6, 0, 1, numbers(1, 1, 2), "0");
        CHECKS.sentence("7 NONE: 1 if none passes");
        gives("of none", 7, 1, 0, numbers(), "1");
        gives("none of three", 7, 0, 1, numbers(2, 2, 2), "1");
        gives("only the first", 7, 0, 1, numbers(1, 2, 2), "0");
        gives("only the last", 7, 0, 1, numbers(2, 2, 1), "0");
    }

    private static void folds() {
        CHECKS.sentence("8 FOLD: from n on, with each x in order: a 0 sum, 1 product, 2 the number so far times 31 and x");
        for (int a = 0; a <= 2; a++) {
            gives("of none, a " + a, 8, a, -17, numbers(), "-17");
        }
        gives("a sum that wraps", 8, 0, MAX, numbers(1), "-2147483648");
        gives("a product that wraps", 8, 1, 2, numbers(MAX, 3), "-6");
        gives("a product with 0", 8, 1, 0, numbers(7), "0");
        gives("in order", 8, 2, 1, numbers(2, 3), "1026");
        gives("31 times that wraps", 8, 2, MIN, numbers(0), "-2147483648");
        gives("31 times MAX and MAX", 8, 2, MAX, numbers(MAX), "-32");
    }

    private static void lists() {
        CHECKS.sentence("9 LIST: how many; they are KEPT");
        for (boolean inParts : Checks.BOTH_WAYS) {
            StageLines x = Checks.withBasket(MAX, 4, MIN, 4);
            Checks.line(x, Checks.basket());
            CHECKS.due("how many" + Checks.way(inParts), Checks.ended(x, inParts, 9, MIN, MAX), "4");
            CHECKS.due("they are kept" + Checks.way(inParts), Checks.keptOf(x), "2147483647 4 -2147483648 4");
            Checks.line(x, Checks.range(3, 0));
            CHECKS.due("of none" + Checks.way(inParts), Checks.ended(x, inParts, 9, 0, 0), "0");
            CHECKS.due("none is kept" + Checks.way(inParts), Checks.keptOf(x), "");
            Checks.line(x, Checks.range(0, 40));
            CHECKS.due("of 40" + Checks.way(inParts), Checks.ended(x, inParts, 9, 0, 0), "40");
            CHECKS.due("the last" + Checks.way(inParts), Checks.told(() -> x.kept(39)), "39");
        }
    }

    private static void tallies() {
        CHECKS.sentence("10 TALLY (n 1 .. 8): how many different remainders (by n, not below 0) there are; "
            + "how many elements have each is kept");
        int[] some = {MIN, MAX, -1, 0, 1, -9, 8};
        tally("n 1", some, 1, "1", "7");
        tally("n 2", some, 2, "2", "3 4");
        tally("n 3", some, 3, "3", "2 3 2");
        tally("n 8", some, 8, "3", "3 1 0 0 0 0 0 3");
        tally("below 0 alone", numbers(-1, -2, -3), 4, "3", "0 1 1 1");
        tally("none, n 1", numbers(), 1, "0", "0");
        tally("none, n 8", numbers(), 8, "0", "0 0 0 0 0 0 0 0");
    }

    private static void tally(String what, int[] basket, int n, String different, String kept) {
        for (boolean inParts : Checks.BOTH_WAYS) {
            StageLines x = Checks.line(Checks.withBasket(basket), Checks.basket());
            CHECKS.due(what + Checks.way(inParts), Checks.ended(x, inParts, 10, MIN, n), different);
            CHECKS.due(what + " is kept" + Checks.way(inParts), Checks.keptOf(x), kept);
        }
    }

    private static void resultsOfNone() {
        CHECKS.sentence("7: NoSuchElementException: LEAST, GREATEST or FIRST of none");
        int[][] nothing = {{5, 0, 0}, {6, 0, 100}, {1, 0, 99}, {2, 0, 0}, {8, 0, 99}, {9, 1, 99}};
        for (int end = 2; end <= 4; end++) {
            gives("an empty basket, end " + end, end, 0, 0, numbers(), NO_RESULT);
            for (int[] stage : nothing) {
                for (boolean inParts : Checks.BOTH_WAYS) {
                    StageLines x = Checks.line(new StageLines(), Checks.range(0, 9), stage);
                    CHECKS.due("end " + end + " behind op " + stage[0] + Checks.way(inParts),
                        Checks.ended(x, inParts, end, 0, 0), NO_RESULT);
                }
            }
            StageLines spent = Checks.line(new StageLines(), Checks.endless(1, 1, 1), Checks.op(2, 0, 0));
            CHECKS.due("what is SPENT is not of none, end " + end, Checks.ended(spent, false, end, 0, 0),
                "UnsupportedOperationException");
        }
    }

    private static void noneKeptAt(StageLines x, int... places) {
        for (int k : places) {
            CHECKS.refuses("kept(" + k + ")", NoSuchElementException.class, () -> x.kept(k));
        }
    }

    private static void keptNumbersThatAreNot() {
        CHECKS.sentence("11: NoSuchElementException: there is none");
        StageLines x = new StageLines();
        noneKeptAt(x, MIN, -1, 0, 1, MAX);
        Checks.line(x, Checks.range(5, 2)).run(9, 0, 0);
        noneKeptAt(x, MIN, -1, 2, 3, 599, 600, MAX);
        CHECKS.due("the first", x.kept(0), 5);
        CHECKS.due("the last", x.kept(1), 6);
        Checks.line(x, Checks.range(5, 2)).run(10, 0, 3);
        noneKeptAt(x, MIN, -1, 3, 8, MAX);
        CHECKS.due("a remainder that none has", x.kept(1), 0);
        CHECKS.due("the last remainder", x.kept(2), 1);
        Checks.line(x, Checks.range(5, 0)).run(9, 0, 0);
        noneKeptAt(x, MIN, -1, 0, 1, MAX);
    }

    private static void keptOfTheLatest() {
        CHECKS.sentence("11: Of what the latest LIST or TALLY .. kept");
        for (boolean inParts : Checks.BOTH_WAYS) {
            StageLines x = Checks.line(new StageLines(), Checks.range(5, 9));
            Checks.ended(x, inParts, 9, 0, 0);
            Checks.line(x, Checks.range(5, 3));
            Checks.ended(x, inParts, 10, 0, 2);
            CHECKS.due("a TALLY behind a LIST" + Checks.way(inParts), Checks.keptOf(x), "1 2");
            Checks.line(x, Checks.range(7, 1));
            Checks.ended(x, inParts, 9, 0, 0);
            CHECKS.due("a LIST behind a TALLY" + Checks.way(inParts), Checks.keptOf(x), "7");
            Checks.line(x, Checks.range(7, 1));
            Checks.ended(x, inParts, 10, 0, 1);
            Checks.line(x, Checks.range(8, 1));
            Checks.ended(x, !inParts, 10, 0, 2);
            CHECKS.due("a TALLY behind a TALLY", Checks.keptOf(x), "1 0");
            for (int turn = 0; turn < 2; turn++) {
                Checks.line(x, Checks.range(5, 9));
                Checks.ended(x, inParts, 9, 0, 0);
            }
            Checks.line(x, Checks.range(5, 1));
            CHECKS.due("a short TALLY behind long LISTs" + Checks.way(inParts), Checks.ended(x, inParts, 10, 0, 2), "1");
            CHECKS.due("of which nothing is left" + Checks.way(inParts), Checks.keptOf(x), "0 1");
        }
    }

    private static void keptOfWhatCameToItsEnd() {
        CHECKS.sentence("11: .. LIST or TALLY that came to its end");
        StageLines x = Checks.line(new StageLines(), Checks.range(7, 2));
        x.run(9, 0, 0);
        int[] keeping = {9, 10};
        for (int end : keeping) {
            Checks.line(x, Checks.endless(1, 1, 1));
            CHECKS.due("a SPENT run", Checks.ended(x, false, end, 0, 8), "UnsupportedOperationException");
            CHECKS.due("keeps nothing", Checks.keptOf(x), "7 8");
            Checks.line(x, Checks.range(0, 40), Checks.op(2, 0, 4), Checks.op(2, 0, 4));
            CHECKS.due("SPENT in parts", Checks.ended(x, true, end, 0, 8), "UnsupportedOperationException");
            CHECKS.due("keeps nothing", Checks.keptOf(x), "7 8");
            CHECKS.due("a used line", Checks.ended(x, true, end, 0, 8), "IllegalStateException");
            CHECKS.due("keeps nothing", Checks.keptOf(x), "7 8");
        }
        Checks.line(x, Checks.endless(1, 1, 1));
        CHECKS.due("a refused TALLY", Checks.ended(x, false, 10, 0, 9), "IllegalArgumentException");
        CHECKS.due("a refused LIST", Checks.ended(x, true, 9, 0, 0), "IllegalArgumentException");
        CHECKS.due("keep nothing", Checks.keptOf(x), "7 8");
        for (boolean inParts : Checks.BOTH_WAYS) {
            for (int end = 0; end <= 8; end++) {
                Checks.line(x, Checks.range(1, 3));
                Checks.ended(x, inParts, end, 0, 1);
            }
            Checks.line(x, Checks.basket());
            CHECKS.due("FIRST of none", Checks.ended(x, inParts, 4, 0, 0), NO_RESULT);
            CHECKS.due("other ends keep nothing" + Checks.way(inParts), Checks.keptOf(x), "7 8");
        }
    }
}

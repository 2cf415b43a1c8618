/** The sentences on the STAGES that name a boundary case (promises 5, 7 and 9), each run both ways. */
public final class StageEdgesTest {
    private static final Checks CHECKS = new Checks();
    private static final int MIN = Integer.MIN_VALUE;
    private static final int MAX = Integer.MAX_VALUE;

    public static void main(String[] args) {
        mapsThatWrap();
        mapToRemainders();
        passing();
        multiples();
        flats();
        distinct();
        sorted();
        limits();
        skips();
        peeks();
        whiles();
        froms();
        CHECKS.end();
    }

    private static int[] numbers(int... v) {
        return v;
    }

    private static void gives(String what, int[] basket, String want, int[]... stages) {
        for (boolean inParts : Checks.BOTH_WAYS) {
            StageLines x = Checks.line(Checks.withBasket(basket), Checks.basket(), stages);
            CHECKS.due(what + Checks.way(inParts), Checks.listed(x, inParts), want);
        }
    }

    private static void mapsThatWrap() {
        CHECKS.sentence("0 MAP, a 0: x + n; 1: x * n; 2: n - x; (Ints that wrap everywhere.)");
        gives("MAX + 1", numbers(MAX), "-2147483648", Checks.op(0, 0, 1));
        gives("MIN + -1", numbers(MIN), "2147483647", Checks.op(0, 0, -1));
        gives("MIN + MIN", numbers(MIN), "0", Checks.op(0, 0, MIN));
        gives("MIN * -1", numbers(MIN), "-2147483648", Checks.op(0, 1, -1));
        gives("MAX * 2", numbers(MAX), "-2", Checks.op(0, 1, 2));
        gives("65536 * 65536", numbers(65536), "0", Checks.op(0, 1, 65536));
        gives("0 - MIN", numbers(MIN), "-2147483648", Checks.op(0, 2, 0));
        gives("-2 - MAX", numbers(MAX), "2147483647", Checks.op(0, 2, -2));
        gives("nothing to change", numbers(), "", Checks.op(0, 0, 1));
    }

    private static void mapToRemainders() {
        CHECKS.sentence("3: the remainder of x by n (0 if n is 0, rounded towards 0)");
        gives("by 0", numbers(7, 0, -7, MIN, MAX), "0 0 0 0 0", Checks.op(0, 3, 0));
        gives("by 3", numbers(7, 6, 0, -6, -7), "1 0 0 0 -1", Checks.op(0, 3, 3));
        gives("by -3", numbers(7, 6, 0, -6, -7), "1 0 0 0 -1", Checks.op(0, 3, -3));
        gives("by 1", numbers(7, -7, MIN), "0 0 0", Checks.op(0, 3, 1));
        gives("by -1", numbers(7, -7, MIN), "0 0 0", Checks.op(0, 3, -1));
        gives("by MIN", numbers(MIN, MAX, -5), "0 2147483647 -5", Checks.op(0, 3, MIN));
        gives("by MAX", numbers(MIN, MAX, 5), "-1 0 5", Checks.op(0, 3, MAX));
    }

    /** One element x against a and n, by everybody who asks whether it passes. */
    private static void passes(int x, int a, int n, boolean want) {
        String what = x + " against a " + a + ", n " + n;
        String alone = Integer.toString(x);
        gives("FILTER of " + what, numbers(x), want ? alone : "", Checks.op(1, a, n));
        gives("WHILE of " + what, numbers(x), want ? alone : "", Checks.op(8, a, n));
        gives("FROM of " + what, numbers(x), want ? "" : alone, Checks.op(9, a, n));
        String[] ends = {want ? "1" : "0", want ? "1" : "0", want ? "0" : "1"};
        for (int i = 0; i < 3; i++) {
            for (boolean inParts : Checks.BOTH_WAYS) {
                StageLines y = Checks.line(Checks.withBasket(x), Checks.basket());
                CHECKS.due("end " + (5 + i) + " of " + what, Checks.ended(y, inParts, 5 + i, a, n), ends[i]);
            }
        }
    }

    private static void passing() {
        int[][] pairs = {{4, 5}, {5, 5}, {6, 5}, {-1, 0}, {0, 0}, {1, 0}, {MIN, MAX}, {MAX, MIN}, {MIN, MIN},
            {MAX, MAX}, {MIN, 1}, {MAX, -1}};
        for (int[] p : pairs) {
            CHECKS.sentence("PASSES a and n: a 0 equal");
            passes(p[0], 0, p[1], p[0] == p[1]);
            CHECKS.sentence("PASSES a and n: 1 not equal");
            passes(p[0], 1, p[1], p[0] != p[1]);
            CHECKS.sentence("PASSES a and n: 2 less than n");
            passes(p[0], 2, p[1], p[0] < p[1]);
            CHECKS.sentence("PASSES a and n: 3 greater");
            passes(p[0], 3, p[1], p[0] > p[1]);
        }
    }

    private static void multiples() {
        CHECKS.sentence("PASSES a and n: 4 a multiple of n (n 0: x is 0)");
        passes(0, 4, 0, true);
        passes(1, 4, 0, false);
        passes(-1, 4, 0, false);
        passes(MIN, 4, 0, false);
        passes(0, 4, 5, true);
        passes(5, 4, 5, true);
        passes(-5, 4, 5, true);
        passes(4, 4, 5, false);
        passes(-4, 4, 5, false);
        passes(10, 4, -5, true);
        passes(9, 4, -5, false);
        passes(7, 4, 1, true);
        passes(MIN, 4, -1, true);
        passes(MIN, 4, MIN, true);
        passes(0, 4, MIN, true);
        passes(MAX, 4, MIN, false);
        passes(2, 4, 4, false);
    }

    private static void flats() {
        CHECKS.sentence("2 FLAT (n 0 .. 4): x, x + 1, .., n of them");
        gives("n 0", numbers(5, 9), "", Checks.op(2, 0, 0));
        gives("n 1", numbers(5, 9), "5 9", Checks.op(2, 0, 1));
        gives("n 4", numbers(5, -2), "5 6 7 8 -2 -1 0 1", Checks.op(2, 0, 4));
        gives("that wraps", numbers(MAX - 1), "2147483646 2147483647 -2147483648 -2147483647", Checks.op(2, 0, 4));
        gives("of none", numbers(), "", Checks.op(2, 0, 4));
        gives("of FLAT", numbers(1), "1 2 2 3", Checks.op(2, 0, 2), Checks.op(2, 0, 2));
    }

    private static void distinct() {
        CHECKS.sentence("3 DISTINCT: those that did not come before");
        gives("of none", numbers(), "", Checks.op(3, 0, 0));
        gives("one beside the other", numbers(2, 2, 2), "2", Checks.op(3, 0, 0));
        gives("far from one another", numbers(2, 1, 2, 3, 1), "2 1 3", Checks.op(3, 0, 0));
        gives("0 and less", numbers(0, -1, 0, 1, -1), "0 -1 1", Checks.op(3, 0, 0));
        gives("the edges", numbers(MIN, MAX, MIN, MAX), "-2147483648 2147483647", Checks.op(3, 0, 0));
        gives("the same by wrapping", numbers(MAX, MIN), "2147483647 -2147483648 -2147483647", Checks.op(2, 0, 2),
            Checks.op(3, 0, 0));
        for (boolean inParts : Checks.BOTH_WAYS) {
            StageLines x = Checks.line(new StageLines(), Checks.range(0, 40), Checks.op(0, 1, 4), Checks.op(2, 0, 4),
                Checks.op(3, 0, 0));
            CHECKS.due("160 different" + Checks.way(inParts), Checks.ended(x, inParts, 0, 0, 0), "160");
            Checks.line(x, Checks.range(0, 40), Checks.op(2, 0, 4), Checks.op(3, 0, 0));
            CHECKS.due("43 of 160" + Checks.way(inParts), Checks.ended(x, inParts, 0, 0, 0), "43");
        }
        StageLines long600 = Checks.line(new StageLines(), Checks.endless(600, 1, -1), Checks.op(3, 0, 0));
        CHECKS.due("600 different", Checks.ended(long600, false, 5, 0, 1), "1");
    }

    private static void sorted() {
        CHECKS.sentence("4 SORTED: all, ascending");
        gives("of none", numbers(), "", Checks.op(4, 0, 0));
        gives("of one", numbers(3), "3", Checks.op(4, 0, 0));
        gives("the same stay", numbers(2, 1, 2, 1), "1 1 2 2", Checks.op(4, 0, 0));
        gives("of ascending ones", numbers(-1, 0, 1), "-1 0 1", Checks.op(4, 0, 0));
        gives("of descending ones", numbers(1, 0, -1), "-1 0 1", Checks.op(4, 0, 0));
        gives("the edges", numbers(0, MAX, MIN, -1), "-2147483648 -1 0 2147483647", Checks.op(4, 0, 0));
        gives("of a RANGE that wraps", numbers(MAX), "-2147483648 2147483647", Checks.op(2, 0, 2), Checks.op(4, 0, 0));
    }

    private static void limits() {
        CHECKS.sentence("5 LIMIT (n 0 .. 100): the first n");
        gives("none of three", numbers(4, 5, 6), "", Checks.op(5, 0, 0));
        gives("one of three", numbers(4, 5, 6), "4", Checks.op(5, 0, 1));
        gives("two of three", numbers(4, 5, 6), "4 5", Checks.op(5, 0, 2));
        gives("three of three", numbers(4, 5, 6), "4 5 6", Checks.op(5, 0, 3));
        gives("four of three", numbers(4, 5, 6), "4 5 6", Checks.op(5, 0, 4));
        gives("100 of three", numbers(4, 5, 6), "4 5 6", Checks.op(5, 0, 100));
        gives("some of none", numbers(), "", Checks.op(5, 0, 3));
        countsOf160("99", Checks.op(5, 0, 99));
        countsOf160("100", Checks.op(5, 0, 100));
    }

    private static void skips() {
        CHECKS.sentence("6 SKIP (n 0 .. 100): all but the first n");
        gives("none of three", numbers(4, 5, 6), "4 5 6", Checks.op(6, 0, 0));
        gives("one of three", numbers(4, 5, 6), "5 6", Checks.op(6, 0, 1));
        gives("two of three", numbers(4, 5, 6), "6", Checks.op(6, 0, 2));
        gives("three of three", numbers(4, 5, 6), "", Checks.op(6, 0, 3));
        gives("four of three", numbers(4, 5, 6), "", Checks.op(6, 0, 4));
        gives("100 of three", numbers(4, 5, 6), "", Checks.op(6, 0, 100));
        gives("some of none", numbers(), "", Checks.op(6, 0, 3));
        countsOf160("61", Checks.op(6, 0, 99));
        countsOf160("60", Checks.op(6, 0, 100));
    }

    private static void countsOf160(String want, int[] stage) {
        for (boolean inParts : Checks.BOTH_WAYS) {
            StageLines x = Checks.line(new StageLines(), Checks.range(0, 40), Checks.op(2, 0, 4), stage);
            CHECKS.due("n " + stage[2] + " of 160" + Checks.way(inParts), Checks.ended(x, inParts, 0, 0, 0), want);
        }
    }

    private static void peeks() {
        CHECKS.sentence("7 PEEK: all");
        gives("of three", numbers(4, MIN, 4), "4 -2147483648 4", Checks.op(7, 0, 0));
        gives("of none", numbers(), "", Checks.op(7, 0, 0));
    }

    private static void whiles() {
        CHECKS.sentence("8 WHILE: those ahead of the first one that doesn't pass a and n");
        gives("the first doesn't", numbers(9, 1, 2), "", Checks.op(8, 2, 5));
        gives("the second doesn't", numbers(1, 9, 2), "1", Checks.op(8, 2, 5));
        gives("the last doesn't", numbers(1, 2, 9), "1 2", Checks.op(8, 2, 5));
        gives("all pass", numbers(1, 2, 3), "1 2 3", Checks.op(8, 2, 5));
        gives("of none", numbers(), "", Checks.op(8, 2, 5));
    }

    private static void froms() {
        CHECKS.sentence("9 FROM: from the first one on that doesn't pass");
        gives("the first doesn't", numbers(9, 1, 2), "9 1 2", Checks.op(9, 2, 5));
        gives("the second doesn't", numbers(1, 9, 2), "9 2", Checks.op(9, 2, 5));
        gives("the last doesn't", numbers(1, 2, 9), "9", Checks.op(9, 2, 5));
        gives("all pass", numbers(1, 2, 3), "", Checks.op(9, 2, 5));
        gives("of none", numbers(), "", Checks.op(9, 2, 5));
    }
}

import java.util.NoSuchElementException;

/** Promises 7 (run) and 10 (seen), one after the other. */
public final class RunTest {
    private static final Checks CHECKS = new Checks();

    public static void main(String[] args) {
        maps();
        tests();
        otherStages();
        ends();
        endsOfNone();
        wrongEnds();
        linesAreUsedOnce();
        onlyAsFarAsWanted();
        sortedWantsAll();
        the601stIsNotGiven();
        the600thIsEnough();
        seenIsOfTheLine();
        linesAreApart();
        CHECKS.end();
    }

    private static String listed(int[] basket, int[]... stages) {
        StageLines x = Checks.line(Checks.withBasket(basket), Checks.basket(), stages);
        x.run(9, 0, 0);
        return Checks.keptOf(x);
    }

    private static void maps() {
        int[] some = {7, -7, Integer.MIN_VALUE};
        CHECKS.due("7: MAP 0", listed(some, Checks.op(0, 0, -1)), "6 -8 2147483647");
        CHECKS.due("7: MAP 1", listed(some, Checks.op(0, 1, 3)), "21 -21 -2147483648");
        CHECKS.due("7: MAP 2", listed(some, Checks.op(0, 2, 1)), "-6 8 -2147483647");
        CHECKS.due("7: MAP 3", listed(some, Checks.op(0, 3, 4)), "3 -3 0");
        CHECKS.due("7: MAP 3 by less than 0", listed(some, Checks.op(0, 3, -4)), "3 -3 0");
        CHECKS.due("7: MAP 3 by 0", listed(some, Checks.op(0, 3, 0)), "0 0 0");
        CHECKS.due("7: MAP 3 by -1", listed(some, Checks.op(0, 3, -1)), "0 0 0");
    }

    private static void tests() {
        int[] some = {-6, -1, 0, 3, 4, Integer.MIN_VALUE};
        CHECKS.due("7: equal", listed(some, Checks.op(1, 0, 3)), "3");
        CHECKS.due("7: not equal", listed(some, Checks.op(1, 1, 3)), "-6 -1 0 4 -2147483648");
        CHECKS.due("7: less", listed(some, Checks.op(1, 2, 0)), "-6 -1 -2147483648");
        CHECKS.due("7: greater", listed(some, Checks.op(1, 3, 0)), "3 4");
        CHECKS.due("7: multiple", listed(some, Checks.op(1, 4, 3)), "-6 0 3");
        CHECKS.due("7: multiple of less than 0", listed(some, Checks.op(1, 4, -3)), "-6 0 3");
        CHECKS.due("7: multiple of -1", listed(some, Checks.op(1, 4, -1)), "-6 -1 0 3 4 -2147483648");
        CHECKS.due("7: multiple of 0", listed(some, Checks.op(1, 4, 0)), "0");
    }

    private static void otherStages() {
        int[] some = {5, 3, 5, -7, 3, 0};
        CHECKS.due("7: FLAT 0", listed(some, Checks.op(2, 0, 0)), "");
        CHECKS.due("7: FLAT 1", listed(some, Checks.op(2, 0, 1)), "5 3 5 -7 3 0");
        CHECKS.due("7: FLAT 2", listed(some, Checks.op(2, 0, 2)), "5 6 3 4 5 6 -7 -6 3 4 0 1");
        CHECKS.due("7: DISTINCT", listed(some, Checks.op(3, 0, 0)), "5 3 -7 0");
        CHECKS.due("7: SORTED", listed(some, Checks.op(4, 0, 0)), "-7 0 3 3 5 5");
        CHECKS.due("7: LIMIT 0", listed(some, Checks.op(5, 0, 0)), "");
        CHECKS.due("7: LIMIT 2", listed(some, Checks.op(5, 0, 2)), "5 3");
        CHECKS.due("7: LIMIT 100", listed(some, Checks.op(5, 0, 100)), "5 3 5 -7 3 0");
        CHECKS.due("7: SKIP 0", listed(some, Checks.op(6, 0, 0)), "5 3 5 -7 3 0");
        CHECKS.due("7: SKIP 4", listed(some, Checks.op(6, 0, 4)), "3 0");
        CHECKS.due("7: SKIP 100", listed(some, Checks.op(6, 0, 100)), "");
        CHECKS.due("7: PEEK", listed(some, Checks.op(7, 0, 0)), "5 3 5 -7 3 0");
        CHECKS.due("7: WHILE", listed(some, Checks.op(8, 3, 0)), "5 3 5");
        CHECKS.due("7: WHILE of none", listed(some, Checks.op(8, 2, 5)), "");
        CHECKS.due("7: FROM", listed(some, Checks.op(9, 3, 0)), "-7 3 0");
        CHECKS.due("7: FROM of all", listed(some, Checks.op(9, 2, 5)), "5 3 5 -7 3 0");
        CHECKS.due("7: FROM of none", listed(some, Checks.op(9, 1, 9)), "");
        CHECKS.due("7: FLAT wraps", listed(new int[] {Integer.MAX_VALUE}, Checks.op(2, 0, 2)),
            "2147483647 -2147483648");
        CHECKS.due("7: DISTINCT twice and SORTED of the edges",
            listed(new int[] {Integer.MAX_VALUE, Integer.MIN_VALUE, Integer.MAX_VALUE, 0},
                Checks.op(3, 0, 0), Checks.op(4, 0, 0), Checks.op(3, 0, 0)), "-2147483648 0 2147483647");
    }

    private static int ended(int end, int a, int n, int... basket) {
        return Checks.line(Checks.withBasket(basket), Checks.basket()).run(end, a, n);
    }

    private static void ends() {
        CHECKS.due("7: COUNT", ended(0, -1, -1, 4, 9, 4), 3);
        CHECKS.due("7: SUM", ended(1, 0, 0, 4, 9, 4), 17);
        CHECKS.due("7: SUM wraps", ended(1, 0, 0, Integer.MAX_VALUE, 1), Integer.MIN_VALUE);
        CHECKS.due("7: LEAST", ended(2, 0, 0, 4, 9, 2, 3), 2);
        CHECKS.due("7: LEAST above 0", ended(2, 0, 0, 5), 5);
        CHECKS.due("7: GREATEST", ended(3, 0, 0, 4, 9, 2, 3), 9);
        CHECKS.due("7: GREATEST below 0", ended(3, 0, 0, -5, -6), -5);
        CHECKS.due("7: FIRST", ended(4, 0, 0, 4, 9, 2), 4);
        CHECKS.due("7: ANY", ended(5, 2, 3, 4, 9, 2), 1);
        CHECKS.due("7: ANY of none that passes", ended(5, 2, 2, 4, 9, 2), 0);
        CHECKS.due("7: ALL", ended(6, 3, 1, 4, 9, 2), 1);
        CHECKS.due("7: ALL but one", ended(6, 3, 2, 4, 9, 2), 0);
        CHECKS.due("7: NONE", ended(7, 0, 3, 4, 9, 2), 1);
        CHECKS.due("7: NONE but one", ended(7, 0, 9, 4, 9, 2), 0);
        CHECKS.due("7: FOLD 0", ended(8, 0, 100, 4, 9, 2), 115);
        CHECKS.due("7: FOLD 1", ended(8, 1, 10, 4, 9, 2), 720);
        CHECKS.due("7: FOLD 2", ended(8, 2, 1, 4, 9, 2), ((31 + 4) * 31 + 9) * 31 + 2);
        CHECKS.due("7: LIST", ended(9, 0, 0, 4, 9, 4), 3);
        CHECKS.due("7: TALLY", ended(10, 0, 5, 4, 9, -1, 7, -3), 2);
        CHECKS.due("7: TALLY by 8", ended(10, 0, 8, 0, 1, 2, 3, 4, 5, 6, 7, 8), 8);
    }

    private static void endsOfNone() {
        String[] want = {"0", "0", "NoSuchElementException", "NoSuchElementException", "NoSuchElementException",
            "0", "1", "1", "2", "0", "0"};
        for (int end = 0; end <= 10; end++) {
            final int e = end;
            StageLines x = Checks.line(new StageLines(), Checks.basket());
            CHECKS.due("7: end " + end + " of none", Checks.told(() -> x.run(e, 0, 2)), want[end]);
            CHECKS.refuses("7: which uses the line", IllegalStateException.class, () -> x.run(0, 0, 0));
        }
    }

    private static void wrongEnds() {
        int[][] wrong = {{-1, 0, 0}, {11, 0, 0}, {5, -1, 0}, {5, 5, 0}, {6, -1, 0}, {6, 5, 0}, {7, -1, 0}, {7, 5, 0},
            {8, -1, 0}, {8, 3, 0}, {10, 0, 0}, {10, 0, 9}, {10, 0, -1}};
        StageLines x = Checks.line(new StageLines(), Checks.range(1, 3), Checks.op(7, 0, 0));
        for (int[] e : wrong) {
            String what = "run(" + e[0] + ", " + e[1] + ", " + e[2] + ")";
            CHECKS.refuses("7: " + what, IllegalArgumentException.class, () -> x.run(e[0], e[1], e[2]));
            CHECKS.refuses("7: " + what + " without a line", IllegalStateException.class,
                () -> new StageLines().run(e[0], e[1], e[2]));
        }
        CHECKS.due("7: a wrong end sees nothing", x.seen(0), 0);
        CHECKS.due("7: a wrong end leaves the line open", x.stage(0, 0, 1), 2);
        CHECKS.due("7: and it can be run", x.run(1, 0, 0), 9);
        CHECKS.refuses("7: used comes ahead of wrong", IllegalStateException.class, () -> x.run(11, 0, 0));
    }

    private static void linesAreUsedOnce() {
        StageLines x = Checks.line(new StageLines(), Checks.range(1, 3));
        x.run(0, 0, 0);
        CHECKS.refuses("7: run again", IllegalStateException.class, () -> x.run(0, 0, 0));
        CHECKS.refuses("7: parts behind run", IllegalStateException.class, () -> x.parts(0, 0, 0));
        Checks.line(x, Checks.endless(1, 1, 1));
        CHECKS.refuses("7: endless", UnsupportedOperationException.class, () -> x.run(0, 0, 0));
        CHECKS.refuses("7: spent is used", IllegalStateException.class, () -> x.run(0, 0, 0));
        CHECKS.refuses("7: spent takes no stage", IllegalStateException.class, () -> x.stage(7, 0, 0));
    }

    private static String seenBy(int end, int a, int n, int[] source, int[]... stages) {
        StageLines x = Checks.line(new StageLines(), source, stages);
        String answer = Checks.told(() -> x.run(end, a, n));
        return answer + ": " + Checks.seenOf(x);
    }

    private static void onlyAsFarAsWanted() {
        int[] peek = Checks.op(7, 0, 0);
        int[] ten = Checks.range(1, 10);
        CHECKS.due("10: LIMIT", seenBy(0, 0, 0, ten, peek, Checks.op(5, 0, 3), peek), "3: 3 3 3");
        CHECKS.due("10: LIMIT 0", seenBy(0, 0, 0, ten, peek, Checks.op(5, 0, 0), peek), "0: 0 0 0");
        CHECKS.due("10: WHILE", seenBy(0, 0, 0, ten, peek, Checks.op(8, 2, 4), peek), "3: 4 4 3");
        CHECKS.due("10: FROM", seenBy(0, 0, 0, ten, peek, Checks.op(9, 2, 4), peek), "7: 10 10 7");
        CHECKS.due("10: SKIP", seenBy(0, 0, 0, ten, peek, Checks.op(6, 0, 4), peek), "6: 10 10 6");
        CHECKS.due("10: FILTER", seenBy(0, 0, 0, ten, Checks.op(1, 4, 3), peek), "3: 10 3");
        CHECKS.due("10: FIRST", seenBy(4, 0, 0, ten, peek, Checks.op(1, 3, 5), peek), "6: 6 6 1");
        CHECKS.due("10: ANY", seenBy(5, 0, 4, ten, peek), "1: 4");
        CHECKS.due("10: NONE", seenBy(7, 0, 4, ten, peek), "0: 4");
        CHECKS.due("10: ALL", seenBy(6, 2, 4, ten, peek), "0: 4");
        CHECKS.due("10: ANY of none", seenBy(5, 0, 11, ten, peek), "0: 10");
        CHECKS.due("10: LEAST", seenBy(2, 0, 0, ten, peek), "1: 10");
        CHECKS.due("10: COUNT of a sized line looks all the same", seenBy(0, 0, 0, ten, peek), "10: 10");
        CHECKS.due("10: FLAT asks", seenBy(0, 0, 0, ten, Checks.op(2, 0, 4), peek, Checks.op(5, 0, 6)), "6: 2 6 6");
        CHECKS.due("10: FLAT in FLAT asks",
            seenBy(4, 0, 0, ten, Checks.op(2, 0, 4), Checks.op(2, 0, 4), Checks.op(1, 0, 3)), "3: 1 1 3");
        CHECKS.due("10: LIMIT ahead of LIMIT",
            seenBy(0, 0, 0, ten, Checks.op(5, 0, 5), Checks.op(5, 0, 2)), "2: 2 2");
        CHECKS.due("10: LIMIT as far as SKIP",
            seenBy(9, 0, 0, Checks.endless(0, 1, 1), Checks.op(6, 0, 100), Checks.op(5, 0, 100)), "100: 200 100");
        CHECKS.due("10: DISTINCT of one kind spends itself",
            seenBy(0, 0, 0, Checks.endless(7, 1, 0), Checks.op(3, 0, 0), Checks.op(5, 0, 2)),
            "UnsupportedOperationException: 600 1");
    }

    private static void sortedWantsAll() {
        int[] peek = Checks.op(7, 0, 0);
        int[] sorted = Checks.op(4, 0, 0);
        int[] ten = Checks.range(1, 10);
        CHECKS.due("10: SORTED ahead of LIMIT",
            seenBy(0, 0, 0, ten, peek, sorted, peek, Checks.op(5, 0, 2)), "2: 10 10 2 2");
        CHECKS.due("10: SORTED ahead of LIMIT 0",
            seenBy(0, 0, 0, ten, peek, sorted, peek, Checks.op(5, 0, 0)), "0: 10 10 0 0");
        CHECKS.due("10: SORTED behind LIMIT",
            seenBy(4, 0, 0, ten, peek, Checks.op(5, 0, 3), sorted, peek), "1: 3 3 3 1");
        CHECKS.due("10: SORTED ahead of SORTED",
            seenBy(4, 0, 0, ten, sorted, peek, sorted, peek), "1: 10 10 10 1");
        CHECKS.due("10: SORTED ahead of FLAT",
            seenBy(0, 0, 0, ten, sorted, Checks.op(2, 0, 4), Checks.op(5, 0, 5)), "5: 10 2 5");
        CHECKS.due("10: SORTED of an endless one",
            seenBy(4, 0, 0, Checks.endless(1, 1, 1), peek, sorted, peek), "UnsupportedOperationException: 600 600 0");
        CHECKS.due("10: SORTED of an endless one, though nobody wants any",
            seenBy(4, 0, 0, Checks.endless(1, 1, 1), sorted, Checks.op(5, 0, 0)),
            "UnsupportedOperationException: 600 0");
    }

    private static void the601stIsNotGiven() {
        int[] sorted = Checks.op(4, 0, 0);
        int[] flat = Checks.op(2, 0, 4);
        String spent = "UnsupportedOperationException: ";
        CHECKS.due("7: the source's", seenBy(0, 0, 0, Checks.endless(1, 1, 1), Checks.op(7, 0, 0)), spent + "600");
        CHECKS.due("7: a FLAT's", seenBy(0, 0, 0, Checks.range(0, 40), flat, flat), spent + "29 115");
        CHECKS.due("7: a SORTED's", seenBy(0, 0, 0, Checks.range(0, 40), flat, sorted, sorted, sorted,
            Checks.op(7, 0, 0)), spent + "40 160 160 160 80");
        CHECKS.due("7: FLAT 0 on and on", seenBy(0, 0, 0, Checks.endless(1, 1, 1), Checks.op(2, 0, 0)), spent + "600");
        CHECKS.due("7: 21 an element, 28 elements", seenBy(0, 0, 0, Checks.range(0, 28), flat, flat), "448: 28 112");
    }

    private static void the600thIsEnough() {
        int[] numbers = Checks.endless(1, 1, 1);
        CHECKS.due("7: FIRST at 600", seenBy(4, 0, 0, numbers, Checks.op(1, 0, 600)), "600: 600");
        CHECKS.due("7: FIRST at 601", seenBy(4, 0, 0, numbers, Checks.op(1, 0, 601)),
            "UnsupportedOperationException: 600");
        CHECKS.due("7: LIMIT full at 600", seenBy(0, 0, 0, numbers, Checks.op(1, 4, 6), Checks.op(5, 0, 100)),
            "100: 600 100");
        CHECKS.due("7: WHILE till 600", seenBy(0, 0, 0, numbers, Checks.op(8, 2, 600)), "599: 600");
        CHECKS.due("7: WHILE till 601", seenBy(0, 0, 0, numbers, Checks.op(8, 2, 601)),
            "UnsupportedOperationException: 600");
        int[] flat = Checks.op(2, 0, 4);
        int[] sorted = Checks.op(4, 0, 0);
        CHECKS.due("7: 24 + 96 + 5 * 96, and no more to give",
            seenBy(0, 0, 0, Checks.range(0, 24), flat, sorted, sorted, sorted, sorted, sorted),
            "96: 24 96 96 96 96 96");
        CHECKS.due("7: 25 + 100 + 5 * 100",
            seenBy(0, 0, 0, Checks.range(0, 25), flat, sorted, sorted, sorted, sorted, sorted),
            "UnsupportedOperationException: 25 100 100 100 100 100");
    }

    private static void seenIsOfTheLine() {
        StageLines x = Checks.line(new StageLines(), Checks.range(1, 3), Checks.op(7, 0, 0));
        CHECKS.due("10: ahead of the run", x.seen(0), 0);
        CHECKS.due("10: no stage 1", x.seen(1), -1);
        CHECKS.due("10: no stage -1", x.seen(-1), -1);
        CHECKS.due("10: no stage MIN", x.seen(Integer.MIN_VALUE), -1);
        CHECKS.due("10: no stage MAX", x.seen(Integer.MAX_VALUE), -1);
        x.run(0, 0, 0);
        CHECKS.due("10: behind the run", x.seen(0), 3);
        CHECKS.refuses("10: a refused run", IllegalStateException.class, () -> x.run(0, 0, 0));
        CHECKS.due("10: changes nothing", x.seen(0), 3);
        Checks.line(x, Checks.range(1, 3));
        CHECKS.due("10: a new line has no stage", x.seen(0), -1);
        Checks.line(x, Checks.basket(), Checks.op(7, 0, 0));
        CHECKS.refuses("10: FIRST of none", NoSuchElementException.class, () -> x.run(4, 0, 0));
        CHECKS.due("10: has seen none", x.seen(0), 0);
    }

    /** Nothing of a line, not even of a spent one, is left in the next one of the same object. */
    private static void linesAreApart() {
        StageLines x = new StageLines();
        for (int turn = 0; turn < 2; turn++) {
            Checks.line(x, Checks.range(1, 5), Checks.op(8, 2, 3), Checks.op(3, 0, 0));
            CHECKS.due("7: WHILE and DISTINCT anew", x.run(9, 0, 0), 2);
            Checks.line(x, Checks.range(1, 5), Checks.op(4, 0, 0), Checks.op(4, 0, 0));
            CHECKS.due("7: SORTED anew", x.run(9, 0, 0), 5);
            Checks.line(x, Checks.range(1, 5), Checks.op(9, 2, 3), Checks.op(5, 0, 2), Checks.op(6, 0, 1));
            CHECKS.due("7: FROM, LIMIT and SKIP anew", x.run(1, 0, 0), 4);
            Checks.line(x, Checks.endless(1, 1, 1));
            CHECKS.refuses("7: spent each time", UnsupportedOperationException.class, () -> x.run(0, 0, 0));
            Checks.line(x, Checks.range(1, 5));
            CHECKS.due("7: not spent", Checks.told(() -> x.run(8, 0, 0)), "15");
        }
    }
}

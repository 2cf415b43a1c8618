import java.util.NoSuchElementException;

/** Promises 8 (pool), 9 (parts), 10 (seen, in parts) and 12 (pooled). */
public final class PartsTest {
    private static final Checks CHECKS = new Checks();

    public static void main(String[] args) {
        poolsThatAreRefused();
        poolAtFirst();
        oneWorker();
        poolByHand();
        eachPoolBeginsWithTheSeed();
        pooledIsOfTheLatest();
        allIsSeen();
        spentInParts();
        endsInParts();
        wrongEnds();
        usedLines();
        linesAreApart();
        CHECKS.end();
    }

    private static String pooled(StageLines x, int elements) {
        Checks.line(x, Checks.range(0, elements)).parts(0, 0, 0);
        return Checks.pooledOf(x);
    }

    private static StageLines withPool(int grain, int workers, int seed) {
        StageLines x = new StageLines();
        x.pool(grain, workers, seed);
        return x;
    }

    private static void poolsThatAreRefused() {
        int[][] wrong = {{0, 2, 1}, {21, 2, 1}, {-1, 2, 1}, {4, 0, 1}, {4, 5, 1}, {4, -1, 1}, {0, 0, 0}};
        StageLines x = withPool(10, 3, 99);
        String before = pooled(x, 40);
        for (int[] p : wrong) {
            CHECKS.refuses("8: pool(" + p[0] + ", " + p[1] + ", " + p[2] + ")", IllegalArgumentException.class,
                () -> x.pool(p[0], p[1], p[2]));
            CHECKS.due("8: which changes nothing", pooled(x, 40), before);
        }
        int[] seeds = {0, -1, Integer.MIN_VALUE, Integer.MAX_VALUE};
        for (int seed : seeds) {
            CHECKS.due("8: any seed", Checks.nameOfThrown(() -> x.pool(1, 4, seed)), "nothing");
            CHECKS.due("8: any seed ends", pooled(x, 40).startsWith("79 40 ") ? 1 : 0, 1);
        }
        CHECKS.due("8: the greatest grain", Checks.nameOfThrown(() -> x.pool(20, 1, 0)), "nothing");
    }

    private static void poolAtFirst() {
        CHECKS.due("8: at first", pooled(new StageLines(), 40), pooled(withPool(4, 2, 1), 40));
        CHECKS.due("8: at first, as the shared run tells", pooled(new StageLines(), 40), "31 16 3 7 9 0 0");
    }

    private static void oneWorker() {
        CHECKS.due("12: of none", pooled(withPool(1, 1, 5), 0), "1 1 0 1 0 0 0");
        CHECKS.due("12: of one", pooled(withPool(1, 1, 5), 1), "1 1 0 1 0 0 0");
        CHECKS.due("12: as many as the grain", pooled(withPool(20, 1, 5), 20), "1 1 0 1 0 0 0");
        CHECKS.due("12: one more than the grain", pooled(withPool(20, 1, 5), 21), "3 2 0 2 0 0 0");
        CHECKS.due("12: 5 by 2 is 2 and 3, and 3 is 1 and 2", pooled(withPool(2, 1, 5), 5), "5 3 0 3 0 0 0");
        CHECKS.due("12: 40 ones", pooled(withPool(1, 1, 5), 40), "79 40 0 40 0 0 0");
    }

    /**
     * SEED 1 draws, of two workers, 1103527590 >>> 16 = 16838: 0; 2524885223 >>> 16 = 38526: 0;
     * 662824084 >>> 16 = 10113: 1. So worker 0 halves, does one half, and worker 1 steals the other.
     */
    private static void poolByHand() {
        CHECKS.due("12: a theft", pooled(withPool(1, 2, 1), 2), "3 2 1 1 1 0 0");
        // Of three: 16838 % 3 = 2 steals the first from worker 0 and halves it, 38526 % 3 = 0 steals from 2
        // (worker 1 has none), 10113 % 3 = 0 steals again.
        CHECKS.due("12: the next by numbers, and round", pooled(withPool(1, 3, 1), 2), "3 2 3 2 0 0 0");
    }

    private static void eachPoolBeginsWithTheSeed() {
        StageLines x = withPool(1, 4, 77);
        String once = pooled(x, 20);
        CHECKS.due("9: as the shared run tells", once, "39 20 14 2 4 8 6");
        CHECKS.due("9: the same again", pooled(x, 20), once);
    }

    private static void pooledIsOfTheLatest() {
        StageLines x = new StageLines();
        CHECKS.due("12: before", Checks.pooledOf(x), "0 0 0 0 0 0 0");
        x.pool(20, 1, 1);
        CHECKS.due("12: pool() alone works nothing", Checks.pooledOf(x), "0 0 0 0 0 0 0");
        String want = pooled(x, 40);
        CHECKS.due("12: 40 by 20", want, "3 2 0 2 0 0 0");
        Checks.line(x, Checks.range(0, 1)).run(0, 0, 0);
        CHECKS.due("12: run() changes nothing", Checks.pooledOf(x), want);
        CHECKS.refuses("12: a used line", IllegalStateException.class, () -> x.parts(0, 0, 0));
        Checks.line(x, Checks.range(0, 1));
        CHECKS.refuses("12: a wrong end", IllegalArgumentException.class, () -> x.parts(11, 0, 0));
        Checks.line(x, Checks.endless(0, 1, 1));
        CHECKS.refuses("12: an endless source", IllegalArgumentException.class, () -> x.parts(0, 0, 0));
        CHECKS.due("12: refused parts() change nothing", Checks.pooledOf(x), want);
        Checks.line(x, Checks.basket());
        CHECKS.refuses("12: LEAST of none", NoSuchElementException.class, () -> x.parts(2, 0, 0));
        CHECKS.due("12: has worked the pool through", Checks.pooledOf(x), "1 1 0 1 0 0 0");
        Checks.line(x, Checks.range(0, 40), Checks.op(2, 0, 4), Checks.op(2, 0, 4));
        CHECKS.refuses("12: spent", UnsupportedOperationException.class, () -> x.parts(0, 0, 0));
        CHECKS.due("12: has worked the pool through as well", Checks.pooledOf(x), want);
        int[] others = {-1, 7, Integer.MIN_VALUE, Integer.MAX_VALUE};
        for (int what : others) {
            CHECKS.due("12: pooled(" + what + ")", x.pooled(what), -1);
        }
    }

    private static String seenBy(int end, int a, int n, int[] source, int[]... stages) {
        StageLines x = Checks.line(Checks.withBasket(2, 1, 2), source, stages);
        String answer = Checks.told(() -> x.parts(end, a, n));
        return answer + ": " + Checks.seenOf(x);
    }

    private static void allIsSeen() {
        int[] peek = Checks.op(7, 0, 0);
        int[] ten = Checks.range(1, 10);
        CHECKS.due("10: LIMIT", seenBy(0, 0, 0, ten, peek, Checks.op(5, 0, 3), peek), "3: 10 10 3");
        CHECKS.due("10: LIMIT 0", seenBy(0, 0, 0, ten, peek, Checks.op(5, 0, 0), peek), "0: 10 10 0");
        CHECKS.due("10: WHILE", seenBy(0, 0, 0, ten, peek, Checks.op(8, 2, 4), peek), "3: 10 10 3");
        CHECKS.due("10: WHILE does not begin again",
            seenBy(0, 0, 0, Checks.basket(), Checks.op(8, 0, 2), peek), "1: 3 1");
        CHECKS.due("10: FROM goes on", seenBy(0, 0, 0, Checks.basket(), Checks.op(9, 0, 2), peek), "2: 3 2");
        CHECKS.due("10: SKIP", seenBy(0, 0, 0, ten, Checks.op(6, 0, 4), peek), "6: 10 6");
        CHECKS.due("10: DISTINCT", seenBy(0, 0, 0, Checks.basket(), Checks.op(3, 0, 0), peek), "2: 3 2");
        CHECKS.due("10: FIRST", seenBy(4, 0, 0, ten, peek), "1: 10");
        CHECKS.due("10: ANY", seenBy(5, 0, 1, ten, peek), "1: 10");
        CHECKS.due("10: FLAT and LIMIT", seenBy(0, 0, 0, ten, Checks.op(2, 0, 4), Checks.op(5, 0, 1)), "1: 10 40");
        CHECKS.due("10: SORTED", seenBy(4, 0, 0, Checks.basket(), Checks.op(4, 0, 0), peek), "1: 3 3");
    }

    private static void spentInParts() {
        int[] flat = Checks.op(2, 0, 4);
        int[] peek = Checks.op(7, 0, 0);
        CHECKS.due("9: 592 let go", seenBy(0, 0, 0, Checks.range(0, 37), flat, flat, peek), "592: 37 148 592");
        CHECKS.due("9: 600 let go", seenBy(0, 0, 0, Checks.range(0, 40), flat, Checks.op(6, 0, 10), flat, peek),
            "600: 40 160 150 600");
        CHECKS.due("9: the 601st", seenBy(0, 0, 0, Checks.range(0, 38), flat, flat, peek, peek),
            "UnsupportedOperationException: 38 151 0 0");
        CHECKS.due("9: the 601st, though few are wanted", seenBy(4, 0, 0, Checks.range(0, 40), flat, flat,
            Checks.op(5, 0, 1)), "UnsupportedOperationException: 40 151 0");
        CHECKS.due("9: the 601st in a threefold",
            seenBy(0, 0, 0, Checks.range(0, 20), flat, Checks.op(2, 0, 3), Checks.op(2, 0, 3), peek),
            "UnsupportedOperationException: 20 80 201 0");
        CHECKS.due("9: steps are not counted over all stages",
            seenBy(0, 0, 0, Checks.range(0, 40), flat, Checks.op(4, 0, 0), Checks.op(4, 0, 0), Checks.op(4, 0, 0)),
            "160: 40 160 160 160");
    }

    private static void endsInParts() {
        String[] want = {"3", "5", "1", "2", "2", "0", "0", "1", "8", "3", "1"};
        for (int end = 0; end <= 10; end++) {
            final int e = end;
            StageLines x = Checks.line(Checks.withBasket(2, 1, 2), Checks.basket());
            CHECKS.due("9: end " + end, Checks.told(() -> x.parts(e, 0, e == 10 ? 1 : 3)), want[end]);
        }
        String[] ofNone = {"0", "0", "NoSuchElementException", "NoSuchElementException", "NoSuchElementException",
            "0", "1", "1", "3", "0", "0"};
        for (int end = 0; end <= 10; end++) {
            final int e = end;
            StageLines x = Checks.line(new StageLines(), Checks.range(9, 0));
            CHECKS.due("9: end " + end + " of none", Checks.told(() -> x.parts(e, 0, 3)), ofNone[end]);
            CHECKS.refuses("9: which uses the line", IllegalStateException.class, () -> x.parts(0, 0, 0));
        }
        StageLines x = Checks.withBasket(9, 8);
        x.source(0, 0, 0, 0);
        x.put(7);
        CHECKS.due("9: the basket as it is then", x.parts(8, 2, 0), (9 * 31 + 8) * 31 + 7);
    }

    private static void wrongEnds() {
        int[][] wrong = {{-1, 0, 0}, {11, 0, 0}, {5, -1, 0}, {6, 5, 0}, {7, 5, 0}, {8, 3, 0}, {10, 0, 0}, {10, 0, 9}};
        StageLines x = Checks.line(new StageLines(), Checks.range(1, 3));
        for (int[] e : wrong) {
            String what = "parts(" + e[0] + ", " + e[1] + ", " + e[2] + ")";
            CHECKS.refuses("9: " + what, IllegalArgumentException.class, () -> x.parts(e[0], e[1], e[2]));
            CHECKS.refuses("9: " + what + " without a line", IllegalStateException.class,
                () -> new StageLines().parts(e[0], e[1], e[2]));
        }
        CHECKS.due("9: the line is not used", x.parts(1, 0, 0), 6);
        Checks.line(x, Checks.endless(4, 1, 1), Checks.op(5, 0, 2));
        CHECKS.refuses("9: an endless source", IllegalArgumentException.class, () -> x.parts(0, 0, 0));
        CHECKS.due("9: is not used by that", x.run(1, 0, 0), 9);
        CHECKS.refuses("9: used comes ahead of endless", IllegalStateException.class, () -> x.parts(0, 0, 0));
    }

    private static void usedLines() {
        StageLines x = Checks.line(new StageLines(), Checks.range(1, 3));
        x.parts(0, 0, 0);
        CHECKS.refuses("9: parts again", IllegalStateException.class, () -> x.parts(0, 0, 0));
        CHECKS.refuses("9: run behind parts", IllegalStateException.class, () -> x.run(0, 0, 0));
        CHECKS.refuses("9: used comes ahead of wrong", IllegalStateException.class, () -> x.parts(11, 0, 0));
        Checks.line(x, Checks.range(0, 40), Checks.op(2, 0, 4), Checks.op(2, 0, 4));
        CHECKS.refuses("9: spent", UnsupportedOperationException.class, () -> x.parts(0, 0, 0));
        CHECKS.refuses("9: spent is used", IllegalStateException.class, () -> x.run(0, 0, 0));
    }

    /** Nothing of a line, not even of a spent one, is left in the next one of the same object. */
    private static void linesAreApart() {
        StageLines x = new StageLines();
        for (int turn = 0; turn < 2; turn++) {
            Checks.line(x, Checks.range(1, 5), Checks.op(8, 2, 3), Checks.op(3, 0, 0));
            CHECKS.due("9: WHILE and DISTINCT anew", x.parts(9, 0, 0), 2);
            Checks.line(x, Checks.range(1, 5), Checks.op(4, 0, 0), Checks.op(4, 0, 0));
            CHECKS.due("9: SORTED anew", x.parts(9, 0, 0), 5);
            Checks.line(x, Checks.range(1, 5), Checks.op(9, 2, 3), Checks.op(5, 0, 2), Checks.op(6, 0, 1));
            CHECKS.due("9: FROM, LIMIT and SKIP anew", x.parts(1, 0, 0), 4);
            Checks.line(x, Checks.range(0, 40), Checks.op(2, 0, 4), Checks.op(2, 0, 4));
            CHECKS.refuses("9: spent each time", UnsupportedOperationException.class, () -> x.parts(0, 0, 0));
            Checks.line(x, Checks.range(1, 5));
            CHECKS.due("9: not spent", Checks.told(() -> x.parts(8, 0, 0)), "15");
        }
    }
}

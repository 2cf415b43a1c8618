/** The sentences of THE POOL and of promises 8 and 12 that name a boundary case. */
public final class PoolEdgesTest {
    private static final Checks CHECKS = new Checks();
    private static final int MIN = Integer.MIN_VALUE;
    private static final int MAX = Integer.MAX_VALUE;

    public static void main(String[] args) {
        grainIsNotAsSaid();
        workersAreNotAsSaid();
        anySeed();
        atFirst();
        allOfItWithWorker0();
        aWorkerIsDrawn();
        drawnOnAndOn();
        itTakesItsLastOne();
        moreThanTheGrain();
        theHalves();
        theFirstTaskOfTheNext();
        behindTheLastTheFirst();
        likewiseInThisTurn();
        untilNoneHasATask();
        zeroBefore();
        ofTheLatest();
        minusOneForOthers();
        CHECKS.end();
    }

    private static String pooled(StageLines x, int elements) {
        Checks.line(x, Checks.range(0, elements)).parts(0, 0, 0);
        return Checks.pooledOf(x);
    }

    private static String pooled(int elements, int grain, int workers, int seed) {
        StageLines x = new StageLines();
        x.pool(grain, workers, seed);
        return pooled(x, elements);
    }

    // Promise 8.

    /** A refused pool() changes none of GRAIN, WORKERS and SEED, nor what was pooled. */
    private static void refusedPoolLeavesAll(int grain, int workers) {
        String what = "pool(" + grain + ", " + workers + ", 77)";
        StageLines x = new StageLines();
        CHECKS.refuses(what, IllegalArgumentException.class, () -> x.pool(grain, workers, 77));
        CHECKS.due(what + " leaves what was at first", pooled(x, 40), "31 16 3 7 9 0 0");
        x.pool(1, 3, 5);
        String before = pooled(x, 40);
        CHECKS.refuses(what + " again", IllegalArgumentException.class, () -> x.pool(grain, workers, 77));
        CHECKS.due(what + " leaves what was pooled", Checks.pooledOf(x), before);
        CHECKS.due(what + " leaves what pool() set", pooled(x, 40), before);
    }

    private static void grainIsNotAsSaid() {
        CHECKS.sentence("8: IllegalArgumentException: grain .. not as said (1 .. 20)");
        int[] wrong = {0, 21, -1, MIN, MAX};
        for (int grain : wrong) {
            refusedPoolLeavesAll(grain, 2);
        }
        CHECKS.due("grain 1", pooled(40, 1, 1, 0), "79 40 0 40 0 0 0");
        CHECKS.due("grain 19", pooled(20, 19, 1, 0), "3 2 0 2 0 0 0");
        CHECKS.due("grain 20", pooled(20, 20, 1, 0), "1 1 0 1 0 0 0");
    }

    private static void workersAreNotAsSaid() {
        CHECKS.sentence("8: IllegalArgumentException: .. workers are not as said (1 to 4)");
        int[] wrong = {0, 5, -1, MIN, MAX};
        for (int workers : wrong) {
            refusedPoolLeavesAll(4, workers);
        }
        refusedPoolLeavesAll(0, 0);
        refusedPoolLeavesAll(21, 5);
        CHECKS.due("1 worker", pooled(4, 1, 1, 0), "7 4 0 4 0 0 0");
        CHECKS.due("4 workers", pooled(20, 1, 4, 77), "39 20 14 2 4 8 6");
    }

    private static void anySeed() {
        CHECKS.sentence("8: grain or workers are not as said: the SEED may be any");
        int[] seeds = {0, -1, 1, MIN, MAX};
        for (int seed : seeds) {
            CHECKS.due("seed " + seed, Checks.nameOfThrown(() -> new StageLines().pool(4, 2, seed)), "nothing");
        }
    }

    private static void atFirst() {
        CHECKS.sentence("8: (At first 4, 2 and 1.)");
        StageLines x = new StageLines();
        CHECKS.due("of 4, no more than the grain", pooled(x, 4), pooled(4, 4, 2, 1));
        CHECKS.due("of 5, more than the grain", pooled(x, 5), pooled(5, 4, 2, 1));
        CHECKS.due("of 40, with both workers", pooled(x, 40), "31 16 3 7 9 0 0");
    }

    // THE POOL. What S >>> 16 is, turn by turn: seed 1: 16838, 38526, 10113, 50283, 63819, ..;
    // seed 2: 33676, 22817, 43007, 45682, 58605, ..; seed 3: 50515, 7107, 10365, ..;
    // seed 11: 54149, 12504, 11371, 4268, 11672, ...

    private static void allOfItWithWorker0() {
        CHECKS.sentence("a TASK is a part of the source, at first all of it, with worker 0");
        CHECKS.due("nothing is a task too, done by worker 0", pooled(0, 1, 2, 1), "1 1 0 1 0 0 0");
        CHECKS.due("stolen from worker 0 by worker 1", pooled(0, 1, 2, 3), "1 1 1 0 1 0 0");
        CHECKS.due("all 20 in one task", pooled(20, 20, 2, 1), "1 1 0 1 0 0 0");
        StageLines x = Checks.withBasket(7, 7);
        x.pool(1, 1, 0);
        Checks.line(x, Checks.basket());
        x.put(7);
        x.parts(0, 0, 0);
        CHECKS.due("the BASKET as it is then", Checks.pooledOf(x), "5 3 0 3 0 0 0");
        Checks.line(x, Checks.basket());
        x.empty();
        x.parts(0, 0, 0);
        CHECKS.due("the BASKET when it is empty", Checks.pooledOf(x), "1 1 0 1 0 0 0");
    }

    /** Only one turn is taken, so the worker who has done the task is the one who was drawn. */
    private static void aWorkerIsDrawn() {
        CHECKS.sentence("a worker is drawn (S, at first SEED, becomes S * 1103515245 + 12345; "
            + "(S >>> 16) % the number of workers)");
        int[] seeds = {0, 1, 2, 3, 4, 5, 6, 7, 77, -1, -2, -3, 1 << 16, 12345678, -98765432, MIN, MIN + 1, MAX};
        for (int seed : seeds) {
            long s = (seed * 1103515245L + 12345L) & 0xFFFFFFFFL;
            for (int workers = 1; workers <= 4; workers++) {
                int drawn = (int) ((s >> 16) % workers);
                StageLines x = new StageLines();
                x.pool(20, workers, seed);
                pooled(x, 9);
                CHECKS.due("of " + workers + " with seed " + seed, x.pooled(3 + drawn), 1);
                CHECKS.due("nobody else", x.pooled(1), 1);
                CHECKS.due("a theft, if it is not worker 0", x.pooled(2), drawn == 0 ? 0 : 1);
            }
        }
    }

    /** Seed 1: drawn are 0 (halves the two), 0 (does one), 1 (steals and does the other). */
    private static void drawnOnAndOn() {
        CHECKS.sentence("S, at first SEED, becomes S * 1103515245 + 12345");
        CHECKS.due("three turns", pooled(2, 1, 2, 1), "3 2 1 1 1 0 0");
        StageLines x = new StageLines();
        x.pool(1, 2, 1);
        CHECKS.due("with the first line", pooled(x, 2), "3 2 1 1 1 0 0");
        CHECKS.due("with the next it is SEED again", pooled(x, 2), "3 2 1 1 1 0 0");
        CHECKS.due("a pool of another size between", pooled(x, 0), "1 1 0 1 0 0 0");
        CHECKS.due("changes nothing", pooled(x, 2), "3 2 1 1 1 0 0");
    }

    /**
     * Seed 1 draws 0, 0, 1, 1, 1. Worker 0 halves the three into one (its last) and two; it does the one;
     * worker 1 steals the two, halves and does them. Had worker 0 taken its first, no one would be left to it.
     */
    private static void itTakesItsLastOne() {
        CHECKS.sentence("If it has tasks, it takes its last one");
        CHECKS.due("the one of three", pooled(3, 1, 2, 1), "5 3 1 1 2 0 0");
    }

    private static void moreThanTheGrain() {
        CHECKS.sentence("one of more elements than the grain is halved .. otherwise the task is DONE by it");
        CHECKS.due("fewer", pooled(4, 5, 1, 1), "1 1 0 1 0 0 0");
        CHECKS.due("as many", pooled(5, 5, 1, 1), "1 1 0 1 0 0 0");
        CHECKS.due("one more", pooled(6, 5, 1, 1), "3 2 0 2 0 0 0");
        CHECKS.due("twice as many", pooled(10, 5, 1, 1), "3 2 0 2 0 0 0");
        CHECKS.due("twice as many and one", pooled(11, 5, 1, 1), "5 3 0 3 0 0 0");
        CHECKS.due("one of grain 1", pooled(1, 1, 1, 1), "1 1 0 1 0 0 0");
        CHECKS.due("two of grain 1", pooled(2, 1, 1, 1), "3 2 0 2 0 0 0");
        CHECKS.due("40 of grain 20", pooled(40, 20, 1, 1), "3 2 0 2 0 0 0");
        CHECKS.due("40 of grain 19", pooled(40, 19, 1, 1), "7 4 0 4 0 0 0");
    }

    /**
     * Seed 2 draws 0, 1, 1, 0, 1. Worker 0 halves the three; worker 1 steals its first, the second half, which
     * has two: it halves that, does one, worker 0 does its own, worker 1 the last.
     */
    private static void theHalves() {
        CHECKS.sentence("(the first half has the elements up to size / 2, rounded down): it puts the second half "
            + "at the end of its row, and then the first");
        CHECKS.due("one and two of three", pooled(3, 1, 2, 2), "5 3 1 1 2 0 0");
        CHECKS.due("one, done, and two of three", pooled(3, 1, 2, 1), "5 3 1 1 2 0 0");
        CHECKS.due("two and three of five, by a grain of 2", pooled(5, 2, 1, 1), "5 3 0 3 0 0 0");
        CHECKS.due("three and four of seven, by a grain of 3", pooled(7, 3, 1, 1), "5 3 0 3 0 0 0");
    }

    /**
     * Seed 11 draws of three workers 2, 0, 1, 2, 2. Worker 2 steals the three and halves them; 0 steals the two
     * from 2 and halves them; 1 has none, 2 has the one: it is stolen; 2 steals twice from 0 what is there.
     */
    private static void theFirstTaskOfTheNext() {
        CHECKS.sentence("If it has none, it takes the first task of the next worker (by numbers ..) that has any, "
            + "a THEFT");
        CHECKS.due("its first, not its last", pooled(3, 1, 2, 2), "5 3 1 1 2 0 0");
        CHECKS.due("the next, not the one before", pooled(3, 1, 3, 11), "5 3 5 0 1 2 0");
        CHECKS.due("one worker has nobody to steal from", pooled(40, 1, 1, 11), "79 40 0 40 0 0 0");
    }

    /** Seed 1 draws of three 2, 0, 0: worker 2 steals both from 0, halves them, and 0 steals them back from 2. */
    private static void behindTheLastTheFirst() {
        CHECKS.sentence("(.. behind the last the first) that has any");
        CHECKS.due("2 from 0, and 0 past 1 from 2", pooled(2, 1, 3, 1), "3 2 3 2 0 0 0");
        CHECKS.due("3 from 0", pooled(0, 1, 4, 3), "1 1 1 0 0 0 1");
    }

    private static void likewiseInThisTurn() {
        CHECKS.sentence("and deals with that one likewise in this turn");
        CHECKS.due("it is done by the thief", pooled(1, 1, 2, 3), "1 1 1 0 1 0 0");
        CHECKS.due("it is halved by the thief, who has both halves", pooled(2, 1, 2, 3), "3 2 1 0 2 0 0");
    }

    private static void untilNoneHasATask() {
        CHECKS.sentence("Turns go on until no worker has a task");
        for (int workers = 1; workers <= 4; workers++) {
            for (int elements = 1; elements <= 40; elements++) {
                StageLines x = new StageLines();
                x.pool(1, workers, elements * 7919);
                pooled(x, elements);
                CHECKS.due("the tasks of " + elements, x.pooled(1), elements);
                CHECKS.due("the turns of " + elements, x.pooled(0), 2 * elements - 1);
                CHECKS.due("all by somebody", x.pooled(3) + x.pooled(4) + x.pooled(5) + x.pooled(6), elements);
            }
        }
    }

    // Promise 12.

    private static void zeroBefore() {
        CHECKS.sentence("12: (0 before)");
        StageLines x = new StageLines();
        CHECKS.due("a new object", Checks.pooledOf(x), "0 0 0 0 0 0 0");
        x.pool(1, 4, 3);
        CHECKS.due("behind pool()", Checks.pooledOf(x), "0 0 0 0 0 0 0");
        Checks.line(x, Checks.range(0, 9)).run(0, 0, 0);
        CHECKS.due("behind run()", Checks.pooledOf(x), "0 0 0 0 0 0 0");
        CHECKS.due("parts() of a used line", Checks.ended(x, true, 0, 0, 0), "IllegalStateException");
        Checks.line(x, Checks.range(0, 9));
        CHECKS.due("parts() with a wrong end", Checks.ended(x, true, 11, 0, 0), "IllegalArgumentException");
        Checks.line(x, Checks.endless(0, 1, 1));
        CHECKS.due("parts() of ENDLESS", Checks.ended(x, true, 0, 0, 0), "IllegalArgumentException");
        CHECKS.due("behind refused parts()", Checks.pooledOf(x), "0 0 0 0 0 0 0");
    }

    private static void ofTheLatest() {
        CHECKS.sentence("12: Of the latest parts() whose pool was worked through");
        StageLines x = new StageLines();
        x.pool(1, 4, 77);
        String four = pooled(x, 20);
        CHECKS.due("by four workers", four, "39 20 14 2 4 8 6");
        x.pool(20, 1, 0);
        CHECKS.due("pool() alone changes nothing", Checks.pooledOf(x), four);
        Checks.line(x, Checks.range(0, 9)).run(0, 0, 0);
        CHECKS.due("nor does run()", Checks.pooledOf(x), four);
        CHECKS.due("nor parts() of a used line", Checks.ended(x, true, 0, 0, 0), "IllegalStateException");
        Checks.line(x, Checks.endless(0, 1, 1));
        CHECKS.due("nor parts() of ENDLESS", Checks.ended(x, true, 0, 0, 0), "IllegalArgumentException");
        CHECKS.due("none of them", Checks.pooledOf(x), four);
        CHECKS.due("by one worker, of the three others nothing is left", pooled(x, 9), "1 1 0 1 0 0 0");
        x.pool(1, 2, 1);
        Checks.line(x, Checks.range(0, 40), Checks.op(2, 0, 4), Checks.op(2, 0, 4));
        CHECKS.due("SPENT", Checks.ended(x, true, 0, 0, 0), "UnsupportedOperationException");
        CHECKS.due("has been worked through", x.pooled(1), 40);
        Checks.line(x, Checks.basket());
        CHECKS.due("no result", Checks.ended(x, true, 2, 0, 0), "NoSuchElementException");
        CHECKS.due("has been worked through as well", Checks.pooledOf(x), "1 1 0 1 0 0 0");
    }

    private static void minusOneForOthers() {
        CHECKS.sentence("12: 3 + w (w 0 .. 3) the tasks done by worker w; -1 for others");
        StageLines x = new StageLines();
        int[] others = {-1, 7, 8, MIN, MAX};
        for (int what : others) {
            CHECKS.due("before, pooled(" + what + ")", x.pooled(what), -1);
        }
        x.pool(1, 1, 0);
        pooled(x, 3);
        CHECKS.due("a worker that the pool has not", x.pooled(6), 0);
        for (int what : others) {
            CHECKS.due("pooled(" + what + ")", x.pooled(what), -1);
        }
    }
}

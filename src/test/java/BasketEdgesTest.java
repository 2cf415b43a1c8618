import java.util.NoSuchElementException;

/** The sentences of promises 1 to 3 that name a boundary case, each with a test of its own. */
public final class BasketEdgesTest {
    private static final Checks CHECKS = new Checks();
    private static final int MIN = Integer.MIN_VALUE;
    private static final int MAX = Integer.MAX_VALUE;

    public static void main(String[] args) {
        anEmptyBasket();
        noLine();
        nothingWasRun();
        behindTheOthers();
        howManyThereAre();
        fortyAreThere();
        upTo40Ints();
        theBasketBecomesEmpty();
        howManyThereWere();
        CHECKS.end();
    }

    private static StageLines full() {
        StageLines x = new StageLines();
        for (int v = 100; v < 140; v++) {
            x.put(v);
        }
        return x;
    }

    private static void anEmptyBasket() {
        CHECKS.sentence("1: An empty basket");
        CHECKS.due("empty() tells", new StageLines().empty(), 0);
        CHECKS.due("put() is the first", new StageLines().put(0), 1);
        for (boolean inParts : Checks.BOTH_WAYS) {
            StageLines x = Checks.line(new StageLines(), Checks.basket());
            CHECKS.due("COUNT" + Checks.way(inParts), Checks.ended(x, inParts, 0, 0, 0), "0");
        }
    }

    private static void noLine() {
        CHECKS.sentence("1: no line");
        StageLines x = new StageLines();
        CHECKS.refuses("flags()", IllegalStateException.class, () -> x.flags());
        CHECKS.refuses("stage()", IllegalStateException.class, () -> x.stage(0, 0, 0));
        CHECKS.refuses("run()", IllegalStateException.class, () -> x.run(0, 0, 0));
        CHECKS.refuses("parts()", IllegalStateException.class, () -> x.parts(0, 0, 0));
        CHECKS.due("seen(0)", x.seen(0), -1);
        x.put(1);
        x.pool(1, 1, 1);
        CHECKS.refuses("put() and pool() make none", IllegalStateException.class, () -> x.flags());
    }

    private static void nothingWasRun() {
        CHECKS.sentence("1: nothing was run");
        StageLines x = new StageLines();
        CHECKS.refuses("kept(0)", NoSuchElementException.class, () -> x.kept(0));
        CHECKS.due("pooled()", Checks.pooledOf(x), "0 0 0 0 0 0 0");
        Checks.line(x, Checks.range(0, 9), Checks.op(7, 0, 0));
        CHECKS.due("seen(0) of a line that waits", x.seen(0), 0);
        CHECKS.refuses("kept(0) of a line that waits", NoSuchElementException.class, () -> x.kept(0));
    }

    private static void behindTheOthers() {
        CHECKS.sentence("2: A number is put into the basket, behind the others");
        for (boolean inParts : Checks.BOTH_WAYS) {
            StageLines x = Checks.withBasket(MAX, 0, MIN, 0, -1);
            Checks.line(x, Checks.basket());
            CHECKS.due("any int, the same too" + Checks.way(inParts), Checks.listed(x, inParts),
                "2147483647 0 -2147483648 0 -1");
        }
    }

    private static void howManyThereAre() {
        CHECKS.sentence("2: how many there are");
        StageLines x = new StageLines();
        CHECKS.due("the first", x.put(77), 1);
        CHECKS.due("the same again", x.put(77), 2);
        Checks.line(x, Checks.basket()).run(0, 0, 0);
        CHECKS.due("a run takes none out", x.put(-3), 3);
        x.source(1, 5, 5, 0);
        CHECKS.due("another source takes none out", x.put(0), 4);
    }

    private static void fortyAreThere() {
        CHECKS.sentence("2: IllegalArgumentException: 40 are there");
        StageLines x = full();
        x.empty();
        for (int i = 1; i <= 40; i++) {
            CHECKS.due("put() of number " + i, x.put(-i), i);
        }
        Checks.line(x, Checks.basket(), Checks.op(6, 0, 38));
        int[] more = {7, -40, 0, MIN, MAX};
        for (int v : more) {
            CHECKS.refuses("put(" + v + ")", IllegalArgumentException.class, () -> x.put(v));
        }
        CHECKS.due("the line is there yet", x.flags(), 1);
        CHECKS.due("and the last ones are the same", Checks.listed(x, false), "-39 -40");
        CHECKS.due("there are 40 yet", x.empty(), 40);
        CHECKS.due("there is room again", x.put(1), 1);
    }

    private static void upTo40Ints() {
        CHECKS.sentence("The BASKET has up to 40 ints");
        for (boolean inParts : Checks.BOTH_WAYS) {
            StageLines x = Checks.line(full(), Checks.basket());
            CHECKS.due("all 40" + Checks.way(inParts), Checks.ended(x, inParts, 0, 0, 0), "40");
            Checks.line(x, Checks.basket());
            CHECKS.due("the first" + Checks.way(inParts), Checks.ended(x, inParts, 4, 0, 0), "100");
            Checks.line(x, Checks.basket());
            CHECKS.due("the last" + Checks.way(inParts), Checks.ended(x, inParts, 3, 0, 0), "139");
        }
    }

    private static void theBasketBecomesEmpty() {
        CHECKS.sentence("3: The basket becomes empty");
        for (boolean inParts : Checks.BOTH_WAYS) {
            StageLines x = Checks.line(full(), Checks.basket(), Checks.op(5, 0, 2));
            x.run(9, 0, 0);
            x.empty();
            CHECKS.due("what is kept stays", Checks.keptOf(x), "100 101");
            CHECKS.due("what is seen stays", x.seen(0), 2);
            Checks.line(x, Checks.basket());
            CHECKS.due("nothing is left" + Checks.way(inParts), Checks.listed(x, inParts), "");
            x.put(5);
            Checks.line(x, Checks.basket());
            CHECKS.due("none comes back" + Checks.way(inParts), Checks.listed(x, inParts), "5");
        }
    }

    private static void howManyThereWere() {
        CHECKS.sentence("3: how many there were");
        StageLines x = full();
        CHECKS.due("full", x.empty(), 40);
        CHECKS.due("again", x.empty(), 0);
        x.put(MIN);
        CHECKS.due("one", x.empty(), 1);
        CHECKS.due("new", new StageLines().empty(), 0);
    }
}

import java.util.NoSuchElementException;

/** Promise 11 (kept). */
public final class KeptTest {
    private static final Checks CHECKS = new Checks();

    public static void main(String[] args) {
        lists();
        tallies();
        onlyWhatCameToItsEnd();
        longLists();
        CHECKS.end();
    }

    private static void lists() {
        StageLines x = Checks.withBasket(5, 3, 5, -7);
        Checks.line(x, Checks.basket()).run(9, 0, 0);
        CHECKS.due("11: a list", Checks.keptOf(x), "5 3 5 -7");
        int[] none = {-1, 4, 5, Integer.MIN_VALUE, Integer.MAX_VALUE};
        for (int k : none) {
            CHECKS.refuses("11: kept(" + k + ")", NoSuchElementException.class, () -> x.kept(k));
        }
        Checks.line(x, Checks.basket(), Checks.op(5, 0, 2)).parts(9, 0, 0);
        CHECKS.due("11: a shorter list in parts", Checks.keptOf(x), "5 3");
        x.empty();
        CHECKS.due("11: an empty basket changes nothing", Checks.keptOf(x), "5 3");
        Checks.line(x, Checks.basket()).run(9, 0, 0);
        CHECKS.refuses("11: a list of none", NoSuchElementException.class, () -> x.kept(0));
    }

    private static void tallies() {
        StageLines x = Checks.withBasket(5, 3, -1, -8, 0, Integer.MIN_VALUE);
        Checks.line(x, Checks.basket());
        CHECKS.due("11: a tally by 4", x.run(10, 0, 4), 3);
        CHECKS.due("11: remainders not below 0", Checks.keptOf(x), "3 1 0 2");
        CHECKS.refuses("11: kept(4) of four", NoSuchElementException.class, () -> x.kept(4));
        CHECKS.refuses("11: kept(-1)", NoSuchElementException.class, () -> x.kept(-1));
        Checks.line(x, Checks.basket());
        CHECKS.due("11: a tally by 1, in parts", x.parts(10, 0, 1), 1);
        CHECKS.due("11: has one remainder", Checks.keptOf(x), "6");
        Checks.line(x, Checks.range(0, 0));
        CHECKS.due("11: a tally of none", x.run(10, 0, 3), 0);
        CHECKS.due("11: has noughts", Checks.keptOf(x), "0 0 0");
        Checks.line(x, Checks.range(-4, 10));
        CHECKS.due("11: a tally by 8", x.run(10, 0, 8), 8);
        CHECKS.due("11: counts anew", Checks.keptOf(x), "1 1 1 1 2 2 1 1");
    }

    private static void onlyWhatCameToItsEnd() {
        StageLines x = Checks.line(new StageLines(), Checks.range(7, 3));
        x.run(9, 0, 0);
        for (int end = 0; end <= 8; end++) {
            Checks.line(x, Checks.range(1, 5)).run(end, 0, 1);
        }
        CHECKS.due("11: other ends keep nothing", Checks.keptOf(x), "7 8 9");
        int[] lists = {9, 10};
        for (int end : lists) {
            Checks.line(x, Checks.endless(1, 1, 1));
            CHECKS.refuses("11: a spent run", UnsupportedOperationException.class, () -> x.run(end, 0, 8));
            CHECKS.due("11: keeps nothing", Checks.keptOf(x), "7 8 9");
            Checks.line(x, Checks.range(0, 40), Checks.op(2, 0, 4), Checks.op(2, 0, 4));
            CHECKS.refuses("11: spent in parts", UnsupportedOperationException.class, () -> x.parts(end, 0, 8));
            CHECKS.due("11: keeps nothing in parts", Checks.keptOf(x), "7 8 9");
        }
        Checks.line(x, Checks.basket());
        CHECKS.refuses("11: a refused tally", IllegalArgumentException.class, () -> x.run(10, 0, 9));
        CHECKS.due("11: a new line and a refused end keep", Checks.keptOf(x), "7 8 9");
    }

    private static void longLists() {
        StageLines x = Checks.line(new StageLines(), Checks.range(0, 40), Checks.op(2, 0, 4), Checks.op(6, 0, 10),
            Checks.op(2, 0, 4));
        CHECKS.due("11: 600 in parts", x.parts(9, 0, 0), 600);
        CHECKS.due("11: the last of 600", x.kept(599), 45);
        CHECKS.refuses("11: the 601st", NoSuchElementException.class, () -> x.kept(600));
    }
}

/** Promise 6: each sentence on the FLAGS, behind every set of flags that a line can have. */
public final class FlagsTest {
    private static final Checks CHECKS = new Checks();
    private static final int[] MAP = {0, 0, 1};
    private static final int[] DISTINCT = {3, 0, 0};
    private static final int[] SORTED = {4, 0, 0};
    private static final int[] LIMIT = {5, 0, 9};

    private static final String[] SENTENCES = {"MAP: ASCENDING and DIFFERENT end", "FILTER: SIZED ends",
        "FLAT: SIZED, ASCENDING and DIFFERENT end", "DISTINCT: SIZED ends, DIFFERENT begins",
        "SORTED: ASCENDING begins", "LIMIT: ENDS EARLY begins (SIZED stays)", "SKIP: none changes", "PEEK: none",
        "WHILE: SIZED ends, ENDS EARLY begins", "FROM: SIZED ends"};
    private static final int[] END = {2 + 4, 1, 1 + 2 + 4, 1, 0, 0, 0, 0, 1, 1};
    private static final int[] BEGIN = {0, 0, 0, 4, 2, 8, 0, 0, 8, 0};

    public static void main(String[] args) {
        sources();
        for (int op = 0; op <= 9; op++) {
            CHECKS.sentence(SENTENCES[op]);
            behindEverySet(op);
        }
        numbersChangeNothing();
        CHECKS.end();
    }

    private static void sources() {
        StageLines x = new StageLines();
        CHECKS.sentence("BASKET: SIZED");
        CHECKS.due("an empty one", Checks.line(x, Checks.basket()).flags(), 1);
        x.put(3);
        CHECKS.due("one of one", x.flags(), 1);
        CHECKS.sentence("RANGE: SIZED, ASCENDING, DIFFERENT");
        CHECKS.due("one of none", Checks.line(x, Checks.range(5, 0)).flags(), 7);
        CHECKS.due("one of 40", Checks.line(x, Checks.range(5, 40)).flags(), 7);
        CHECKS.due("one that wraps", Checks.line(x, Checks.range(Integer.MAX_VALUE, 2)).flags(), 7);
        CHECKS.sentence("ENDLESS: none");
        CHECKS.due("one that ascends", Checks.line(x, Checks.endless(1, 1, 1)).flags(), 0);
    }

    /** A DIFFERENT line that is SIZED is a RANGE, and ASCENDING then: sets 5 and 13 cannot be. */
    private static void behindEverySet(int op) {
        behind(0, op, Checks.endless(1, 1, 1));
        behind(1, op, Checks.basket());
        behind(1, op, Checks.range(1, 2), MAP);
        behind(2, op, Checks.endless(1, 1, 1), SORTED);
        behind(3, op, Checks.basket(), SORTED);
        behind(4, op, Checks.endless(1, 1, 1), DISTINCT);
        behind(6, op, Checks.range(1, 2), DISTINCT);
        behind(7, op, Checks.range(1, 2));
        behind(8, op, Checks.endless(1, 1, 1), LIMIT);
        behind(9, op, Checks.basket(), LIMIT);
        behind(10, op, Checks.endless(1, 1, 1), LIMIT, SORTED);
        behind(11, op, Checks.basket(), LIMIT, SORTED);
        behind(12, op, Checks.endless(1, 1, 1), LIMIT, DISTINCT);
        behind(14, op, Checks.range(1, 2), LIMIT, DISTINCT);
        behind(15, op, Checks.range(1, 2), LIMIT);
    }

    private static void behind(int before, int op, int[] source, int[]... stages) {
        StageLines x = Checks.line(new StageLines(), source, stages);
        CHECKS.due("the flags before", x.flags(), before);
        x.stage(op, 0, 1);
        CHECKS.due("behind " + before, x.flags(), (before & ~END[op]) | BEGIN[op]);
    }

    private static void numbersChangeNothing() {
        CHECKS.sentence("6: The FLAGS of the line, with its stages");
        int[][] idle = {{0, 0, 0}, {0, 1, 1}, {1, 1, 99}, {2, 0, 1}, {5, 0, 0}, {6, 0, 0}, {6, 0, 100}, {9, 0, 0}};
        int[] want = {1, 1, 6, 0, 15, 7, 7, 6};
        for (int i = 0; i < idle.length; i++) {
            StageLines x = Checks.line(new StageLines(), Checks.range(1, 2), idle[i]);
            CHECKS.due("also of a stage that does nothing, op " + idle[i][0], x.flags(), want[i]);
        }
        StageLines six = Checks.line(new StageLines(), Checks.range(1, 2), MAP, SORTED, LIMIT, DISTINCT, SORTED, MAP);
        CHECKS.due("of six stages", six.flags(), 8);
    }
}

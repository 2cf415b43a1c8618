/** Promises 1 (a new object), 2 (put) and 3 (empty). */
public final class BasketTest {
    private static final Checks CHECKS = new Checks();

    public static void main(String[] args) {
        newObject();
        putCounts();
        putIsRefusedAt40();
        emptyTells();
        objectsAreApart();
        CHECKS.end();
    }

    private static void newObject() {
        StageLines x = new StageLines();
        CHECKS.refuses("1: flags() of no line", IllegalStateException.class, () -> x.flags());
        CHECKS.refuses("1: stage() of no line", IllegalStateException.class, () -> x.stage(7, 0, 0));
        CHECKS.refuses("1: run() of no line", IllegalStateException.class, () -> x.run(0, 0, 0));
        CHECKS.refuses("1: parts() of no line", IllegalStateException.class, () -> x.parts(0, 0, 0));
        CHECKS.refuses("1: kept(0) of nothing", java.util.NoSuchElementException.class, () -> x.kept(0));
        CHECKS.due("1: seen(0) of no line", x.seen(0), -1);
        CHECKS.due("1: pooled() of nothing", Checks.pooledOf(x), "0 0 0 0 0 0 0");
        CHECKS.due("1: the basket of a new object", x.empty(), 0);
    }

    private static void putCounts() {
        StageLines x = new StageLines();
        CHECKS.due("2: put first", x.put(Integer.MIN_VALUE), 1);
        CHECKS.due("2: put second", x.put(Integer.MAX_VALUE), 2);
        CHECKS.due("2: put the same again", x.put(Integer.MAX_VALUE), 3);
        Checks.line(x, Checks.basket()).run(9, 0, 0);
        CHECKS.due("2: in the order of putting", Checks.keptOf(x), "-2147483648 2147483647 2147483647");
    }

    private static void putIsRefusedAt40() {
        StageLines x = new StageLines();
        for (int i = 1; i <= 40; i++) {
            CHECKS.due("2: put number " + i, x.put(-i), i);
        }
        CHECKS.refuses("2: put number 41", IllegalArgumentException.class, () -> x.put(9));
        Checks.line(x, Checks.basket());
        CHECKS.due("2: the refused one is not there", x.run(1, 0, 0), -820);
        CHECKS.due("3: empty of a full basket", x.empty(), 40);
        CHECKS.due("3: put behind empty", x.put(1), 1);
    }

    private static void emptyTells() {
        StageLines x = Checks.withBasket(4, 5);
        CHECKS.due("3: empty of two", x.empty(), 2);
        CHECKS.due("3: empty of none", x.empty(), 0);
        Checks.line(x, Checks.basket());
        CHECKS.due("3: nothing runs from an empty basket", x.run(0, 0, 0), 0);
        x.put(6);
        Checks.line(x, Checks.basket()).run(9, 0, 0);
        CHECKS.due("3: only what was put behind empty", Checks.keptOf(x), "6");
    }

    private static void objectsAreApart() {
        StageLines one = Checks.withBasket(1, 2, 3);
        StageLines other = Checks.withBasket(7);
        CHECKS.due("1: another object's basket", other.empty(), 1);
        CHECKS.due("1: this object's basket", one.empty(), 3);
    }
}

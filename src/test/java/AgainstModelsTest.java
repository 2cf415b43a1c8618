import java.util.ArrayDeque;
import java.util.ArrayList;
import java.util.Arrays;
import java.util.Comparator;
import java.util.Deque;
import java.util.Iterator;
import java.util.List;
import java.util.Optional;
import java.util.Random;
import java.util.Spliterator;
import java.util.Spliterators;
import java.util.TreeSet;
import java.util.function.IntPredicate;
import java.util.stream.Collectors;
import java.util.stream.Stream;
import java.util.stream.StreamSupport;

/**
 * Many lines against other ways to get the same answers: running one after the other against
 * java.util.stream, running in parts against lists, the pool against deques.
 */
public final class AgainstModelsTest {
    private static final Checks CHECKS = new Checks();
    private static final int ROUNDS = 60000;
    // A round makes about a hundred calls, and an object is good for 512.
    private static final int ROUNDS_PER_OBJECT = 5;

    private static final class Spent extends RuntimeException {
        private static final long serialVersionUID = 1L;
    }

    private final Random random = new Random(20261115L);
    private final List<Integer> basket = new ArrayList<>();
    private StageLines x;
    private int[] source;
    private int[][] stages;
    private int[] seen;
    private int steps;
    private List<Integer> kept = new ArrayList<>();
    private int grain = 4;
    private int workers = 2;
    private int seed = 1;

    public static void main(String[] args) {
        AgainstModelsTest test = new AgainstModelsTest();
        int spent = 0;
        for (int round = 0; round < ROUNDS; round++) {
            if (round % ROUNDS_PER_OBJECT == 0) {
                test.beginObject();
            }
            spent += test.round(round) ? 1 : 0;
        }
        CHECKS.due("enough runs are spent, and enough are not", spent > 1000 && spent < ROUNDS / 2 ? 1 : 0, 1);
        CHECKS.end();
    }

    private void beginObject() {
        x = new StageLines();
        basket.clear();
        kept = new ArrayList<>();
        grain = 4;
        workers = 2;
        seed = 1;
    }

    /** One line, run both ways; true if one of them was spent. */
    private boolean round(int round) {
        drawBasket();
        drawPool();
        drawLine();
        int end = random.nextInt(11);
        int a = random.nextInt(end == 8 ? 3 : 5);
        int n = end == 10 ? 1 + random.nextInt(8) : small();
        String what = "round " + round + " " + described(end, a, n);

        seen = new int[stages.length];
        String inOrder = byStream(end, a, n);
        begin();
        CHECKS.due(what + " run", Checks.told(() -> x.run(end, a, n)), inOrder);
        compareState(what + " run");
        if (source[0] == 2) {
            return inOrder.equals("UnsupportedOperationException");
        }
        seen = new int[stages.length];
        String inParts = byLists(end, a, n);
        begin();
        CHECKS.due(what + " parts", Checks.told(() -> x.parts(end, a, n)), inParts);
        compareState(what + " parts");
        CHECKS.due(what + " pooled", Checks.pooledOf(x), byDeques(sourceList().size()));
        boolean spent = (inOrder + inParts).contains("UnsupportedOperationException");
        if (!spent) {
            CHECKS.due(what + " both ways", inParts, inOrder);
        }
        return spent;
    }

    private void compareState(String what) {
        StringBuilder want = new StringBuilder();
        for (int k = 0; k < seen.length; k++) {
            want.append(k == 0 ? "" : " ").append(seen[k]);
        }
        CHECKS.due(what + " seen", Checks.seenOf(x), want.toString());
        compareKept(what);
    }

    /** The first ones, the last one and the one behind it, to stay within the calls of an object. */
    private void compareKept(String what) {
        for (int k = 0; k <= kept.size(); k++) {
            if (k < 8 || k >= kept.size() - 1) {
                final int at = k;
                String want = k < kept.size() ? kept.get(k).toString() : "NoSuchElementException";
                CHECKS.due(what + " kept " + k, Checks.told(() -> x.kept(at)), want);
            }
        }
    }

    private void begin() {
        Checks.line(x, source, stages);
    }

    // What is drawn.

    private int small() {
        return random.nextInt(20) == 0 ? random.nextInt() : random.nextInt(25) - 8;
    }

    private void drawBasket() {
        if (random.nextInt(4) == 0) {
            CHECKS.due("empty()", x.empty(), basket.size());
            basket.clear();
        }
        for (int i = random.nextInt(15); i > 0 && basket.size() < 40; i--) {
            basket.add(small());
            CHECKS.due("put()", x.put(basket.get(basket.size() - 1)), basket.size());
        }
    }

    private void drawPool() {
        if (random.nextInt(3) == 0) {
            grain = 1 + random.nextInt(random.nextBoolean() ? 3 : 20);
            workers = 1 + random.nextInt(4);
            seed = random.nextInt();
            x.pool(grain, workers, seed);
        }
    }

    private void drawLine() {
        int kind = random.nextInt(3);
        int b = kind == 1 ? random.nextInt(41) : random.nextInt(5) - 1;
        source = new int[] {kind, small(), b, random.nextInt(7) - 2};
        stages = new int[random.nextInt(7)][];
        for (int k = 0; k < stages.length; k++) {
            stages[k] = drawnStage();
        }
    }

    private int[] drawnStage() {
        int op = random.nextInt(10);
        int a = random.nextInt(op == 0 ? 4 : 5);
        int n = small();
        if (op == 2) {
            n = random.nextInt(6) == 0 ? random.nextInt(2) : 2 + random.nextInt(3);
        } else if (op == 5 || op == 6) {
            n = random.nextInt(op == 6 || random.nextBoolean() ? 8 : 101);
        } else if ((op == 1 || op >= 8) && random.nextBoolean()) {
            a = 1;
        }
        return new int[] {op, a, n};
    }

    private String described(int end, int a, int n) {
        StringBuilder text = new StringBuilder("basket " + basket + " source " + Arrays.toString(source));
        for (int[] s : stages) {
            text.append(" ").append(Arrays.toString(s));
        }
        return text + " end " + end + " " + a + " " + n;
    }

    // One after the other, by java.util.stream.

    private String byStream(int end, int a, int n) {
        steps = 0;
        try {
            return streamEnd(streamOfStages(), end, a, n);
        } catch (Spent e) {
            return "UnsupportedOperationException";
        }
    }

    private Integer step(Integer given) {
        steps++;
        if (steps > 600) {
            throw new Spent();
        }
        return given;
    }

    /** Of no known size, so that the library looks at each element even where only a count is asked for. */
    private Stream<Integer> streamOfSource() {
        Iterator<Integer> elements = source[0] == 2
            ? Stream.iterate(source[1], v -> v * source[2] + source[3]).iterator()
            : sourceList().iterator();
        return StreamSupport.stream(Spliterators.spliteratorUnknownSize(elements, Spliterator.ORDERED), false);
    }

    private Stream<Integer> streamOfStages() {
        Stream<Integer> stream = streamOfSource().map(this::step);
        for (int k = 0; k < stages.length; k++) {
            final int at = k;
            stream = behind(stream.peek(v -> seen[at]++), stages[k][0], stages[k][1], stages[k][2]);
        }
        return stream;
    }

    private Stream<Integer> behind(Stream<Integer> s, int op, int a, int n) {
        IntPredicate test = test(a, n);
        switch (op) {
            case 0:
                return s.map(v -> mapped(v, a, n));
            case 1:
                return s.filter(test::test);
            case 2:
                return s.flatMap(v -> Stream.iterate(0, i -> i < n, i -> i + 1).map(i -> v + i)).map(this::step);
            case 3:
                return s.distinct();
            case 4:
                // By an order of its own, since the library leaves a second natural sorting out.
                return s.sorted(Comparator.comparingInt(v -> v)).map(this::step);
            case 5:
                return s.limit(n);
            case 6:
                return s.skip(n);
            case 7:
                return s.peek(v -> { });
            case 8:
                return s.takeWhile(test::test);
            default:
                return s.dropWhile(test::test);
        }
    }

    private static IntPredicate test(int a, int n) {
        switch (a) {
            case 0:
                return v -> v == n;
            case 1:
                return v -> v != n;
            case 2:
                return v -> v < n;
            case 3:
                return v -> v > n;
            default:
                return v -> n == 0 ? v == 0 : Math.floorMod((long) v, (long) n) == 0;
        }
    }

    private static int mapped(int v, int a, int n) {
        switch (a) {
            case 0:
                return v + n;
            case 1:
                return v * n;
            case 2:
                return n - v;
            default:
                return n == 0 ? 0 : (int) ((long) v % n);
        }
    }

    private String streamEnd(Stream<Integer> s, int end, int a, int n) {
        switch (end) {
            case 4:
                return told(s.findFirst());
            case 5:
                return s.anyMatch(test(a, n)::test) ? "1" : "0";
            case 6:
                return s.allMatch(test(a, n)::test) ? "1" : "0";
            case 7:
                return s.noneMatch(test(a, n)::test) ? "1" : "0";
            default:
                return listEnd(s.collect(Collectors.toList()), end, a, n);
        }
    }

    private static String told(Optional<Integer> found) {
        return found.isPresent() ? found.get().toString() : "NoSuchElementException";
    }

    // In parts, by lists.

    private List<Integer> sourceList() {
        if (source[0] == 0) {
            return basket;
        }
        List<Integer> all = new ArrayList<>();
        for (int i = 0; i < source[2]; i++) {
            all.add(source[1] + i);
        }
        return all;
    }

    private String byLists(int end, int a, int n) {
        List<Integer> all = sourceList();
        for (int k = 0; k < stages.length; k++) {
            final int at = k;
            Stream<Integer> looked = all.stream().peek(v -> seen[at]++);
            int size = all.size();
            steps = 0;
            try {
                all = behind(looked, stages[k][0], stages[k][1], stages[k][2]).collect(Collectors.toList());
            } catch (Spent e) {
                return "UnsupportedOperationException";
            }
            // The library's limit and takeWhile stop looking, which nobody does in parts.
            seen[k] = size;
        }
        return streamEnd(all.stream(), end, a, n);
    }

    private String listEnd(List<Integer> all, int end, int a, int n) {
        switch (end) {
            case 0:
                return "" + all.size();
            case 1:
                return "" + (int) all.stream().mapToLong(v -> v).sum();
            case 2:
                return told(all.stream().min(Comparator.naturalOrder()));
            case 3:
                return told(all.stream().max(Comparator.naturalOrder()));
            case 8:
                return "" + folded(all, a, n);
            case 9:
                kept = new ArrayList<>(all);
                return "" + all.size();
            default:
                return tallied(all, n);
        }
    }

    private static int folded(List<Integer> all, int a, int n) {
        int value = n;
        for (int v : all) {
            value = a == 0 ? value + v : a == 1 ? value * v : value * 31 + v;
        }
        return value;
    }

    private String tallied(List<Integer> all, int n) {
        int[] counts = new int[n];
        TreeSet<Integer> different = new TreeSet<>();
        for (int v : all) {
            int remainder = (int) (((long) v % n + n) % n);
            counts[remainder]++;
            different.add(remainder);
        }
        kept = Arrays.stream(counts).boxed().collect(Collectors.toList());
        return "" + different.size();
    }

    // The pool, by deques of parts from .. to.

    private String byDeques(int size) {
        List<Deque<int[]>> rows = new ArrayList<>();
        for (int w = 0; w < workers; w++) {
            rows.add(new ArrayDeque<>());
        }
        rows.get(0).addLast(new int[] {0, size});
        int[] done = new int[4];
        int turns = 0;
        int thefts = 0;
        int s = seed;
        while (rows.stream().anyMatch(row -> !row.isEmpty())) {
            turns++;
            s = s * 1103515245 + 12345;
            int w = (s >>> 16) % workers;
            int victim = w;
            while (rows.get(victim).isEmpty()) {
                victim = (victim + 1) % workers;
            }
            thefts += victim == w ? 0 : 1;
            int[] task = victim == w ? rows.get(w).removeLast() : rows.get(victim).removeFirst();
            int length = task[1] - task[0];
            if (length > grain) {
                int middle = task[0] + length / 2;
                rows.get(w).addLast(new int[] {middle, task[1]});
                rows.get(w).addLast(new int[] {task[0], middle});
            } else {
                done[w]++;
            }
        }
        return turns + " " + (done[0] + done[1] + done[2] + done[3]) + " " + thefts + " "
            + done[0] + " " + done[1] + " " + done[2] + " " + done[3];
    }
}

import java.util.NoSuchElementException;

/**
 * Lines of stages through which numbers run lazily, one after the other and only as far as somebody
 * behind wants them, or in parts on a pool of workers who steal from one another.
 */
public final class StageLines {
    private static final int BASKET_ROOM = 40;
    private static final int MAX_STAGES = 6;
    private static final int MAX_STEPS = 600;
    private static final int MAX_SLICE = 100;
    private static final int MAX_FLAT = 4;
    private static final int MAX_TALLY = 8;
    private static final int MAX_GRAIN = 20;
    private static final int MAX_WORKERS = 4;
    // Halving 40 elements down to single ones makes 40 tasks that are done and 39 that are halved.
    private static final int MAX_TASKS = 2 * BASKET_ROOM;

    private static final int BASKET = 0;
    private static final int RANGE = 1;
    private static final int ENDLESS = 2;

    private static final int MAP = 0;
    private static final int FILTER = 1;
    private static final int FLAT = 2;
    private static final int DISTINCT = 3;
    private static final int SORTED = 4;
    private static final int LIMIT = 5;
    private static final int SKIP = 6;
    private static final int WHILE = 8;
    private static final int FROM = 9;
    private static final int LAST_OP = FROM;

    private static final int COUNT = 0;
    private static final int SUM = 1;
    private static final int LEAST = 2;
    private static final int GREATEST = 3;
    private static final int FIRST = 4;
    private static final int ANY = 5;
    private static final int ALL = 6;
    private static final int NONE = 7;
    private static final int FOLD = 8;
    private static final int LIST = 9;
    private static final int TALLY = 10;

    private static final int SIZED = 1;
    private static final int ASCENDING = 2;
    private static final int DIFFERENT = 4;
    private static final int ENDS_EARLY = 8;

    private final Row basket;
    private final Line line;
    private final End ending;
    private final Flow flow;
    private final PartWork partWork;
    private final Crew crew;

    public StageLines() {
        basket = new Row(BASKET_ROOM);
        line = new Line(new Source(basket));
        ending = new End();
        flow = new Flow(line, ending);
        partWork = new PartWork(line, ending);
        crew = new Crew();
    }

    public int put(int v) throws IllegalArgumentException {
        if (basket.isFull()) {
            throw new IllegalArgumentException("the basket is full");
        }
        basket.add(v);
        return basket.size;
    }

    public int empty() {
        int there = basket.size;
        basket.clear();
        return there;
    }

    public void source(int kind, int a, int b, int c) throws IllegalArgumentException {
        if (!within(kind, BASKET, ENDLESS)) {
            throw new IllegalArgumentException("no such source");
        }
        if (kind == RANGE && !within(b, 0, BASKET_ROOM)) {
            throw new IllegalArgumentException("no such range");
        }
        line.begin();
        line.source.become(kind, a, b, c);
    }

    public int stage(int op, int a, int n) throws IllegalStateException, IllegalArgumentException {
        refuseWithoutOpenLine();
        if (line.count == MAX_STAGES || !isStage(op, a, n)) {
            throw new IllegalArgumentException("no such stage, or no room for it");
        }
        line.add(op, a, n);
        return line.count;
    }

    public int flags() throws IllegalStateException {
        if (!line.exists) {
            throw new IllegalStateException("there is no line");
        }
        return line.allFlags();
    }

    public int run(int end, int a, int n) throws IllegalStateException, IllegalArgumentException,
            UnsupportedOperationException, NoSuchElementException {
        refuseWithoutOpenLine();
        refuseUnlessEnd(end, a, n);
        useLine(end, a, n);
        return outcome(flow.comesToEnd());
    }

    public void pool(int grain, int workers, int seed) throws IllegalArgumentException {
        if (!within(grain, 1, MAX_GRAIN) || !within(workers, 1, MAX_WORKERS)) {
            throw new IllegalArgumentException("no such pool");
        }
        crew.become(grain, workers, seed);
    }

    public int parts(int end, int a, int n) throws IllegalStateException, IllegalArgumentException,
            UnsupportedOperationException, NoSuchElementException {
        refuseWithoutOpenLine();
        refuseUnlessEnd(end, a, n);
        if (line.source.kind == ENDLESS) {
            throw new IllegalArgumentException("an endless source has no parts");
        }
        useLine(end, a, n);
        crew.workThrough(line.source.size());
        return outcome(partWork.comesToEnd());
    }

    public int seen(int k) {
        return k >= 0 && k < line.count ? line.stages[k].came : -1;
    }

    public int kept(int k) throws NoSuchElementException {
        if (k < 0 || k >= ending.keeping.size) {
            throw new NoSuchElementException("nothing is kept there");
        }
        return ending.keeping.items[k];
    }

    public int pooled(int what) {
        switch (what) {
            case 0:
                return crew.turns;
            case 1:
                return crew.allDone();
            case 2:
                return crew.thefts;
            default:
                return within(what, 3, 2 + MAX_WORKERS) ? crew.workers[what - 3].done : -1;
        }
    }

    private void refuseWithoutOpenLine() {
        if (!line.exists || line.used) {
            throw new IllegalStateException("there is no line, or it was used");
        }
    }

    private void refuseUnlessEnd(int kind, int a, int n) {
        if (!isEnd(kind, a, n)) {
            throw new IllegalArgumentException("no such end");
        }
    }

    private void useLine(int kind, int a, int n) {
        line.used = true;
        ending.begin(kind, a, n);
    }

    private int outcome(boolean cameToEnd) {
        if (!cameToEnd) {
            throw new UnsupportedOperationException("spent");
        }
        if (!ending.hasResult()) {
            throw new NoSuchElementException("nothing came to the end");
        }
        int result = ending.result();
        ending.keepGathered();
        return result;
    }

    private static boolean within(int v, int least, int greatest) {
        return v >= least && v <= greatest;
    }

    private static boolean isTest(int a) {
        return within(a, 0, 4);
    }

    private static boolean isStage(int op, int a, int n) {
        switch (op) {
            case MAP:
                return within(a, 0, 3);
            case FILTER:
            case WHILE:
            case FROM:
                return isTest(a);
            case FLAT:
                return within(n, 0, MAX_FLAT);
            case LIMIT:
            case SKIP:
                return within(n, 0, MAX_SLICE);
            default:
                return within(op, MAP, LAST_OP);
        }
    }

    private static boolean isEnd(int kind, int a, int n) {
        switch (kind) {
            case ANY:
            case ALL:
            case NONE:
                return isTest(a);
            case FOLD:
                return within(a, 0, 2);
            case TALLY:
                return within(n, 1, MAX_TALLY);
            default:
                return within(kind, COUNT, TALLY);
        }
    }

    private static boolean passes(int x, int a, int n) {
        switch (a) {
            case 0:
                return x == n;
            case 1:
                return x != n;
            case 2:
                return x < n;
            case 3:
                return x > n;
            default:
                return n == 0 ? x == 0 : x % n == 0;
        }
    }

    /** A row of numbers with a room that is made once; what finds no room is not taken. */
    private static final class Row {
        private final int[] items;
        private int size;

        Row(int room) {
            items = new int[room];
        }

        boolean isFull() {
            return size == items.length;
        }

        void clear() {
            size = 0;
        }

        void add(int x) {
            insertAt(size, x);
        }

        void insertAscending(int x) {
            insertAt(placeAscending(x), x);
        }

        /** False, and nothing is inserted, if x is here already. */
        boolean insertIfNew(int x) {
            int place = placeAscending(x);
            if (place < size && items[place] == x) {
                return false;
            }
            insertAt(place, x);
            return true;
        }

        void copyFrom(Row other) {
            clear();
            for (int i = 0; i < other.size; i++) {
                add(other.items[i]);
            }
        }

        private void insertAt(int place, int x) {
            if (isFull()) {
                return;
            }
            System.arraycopy(items, place, items, place + 1, size - place);
            items[place] = x;
            size++;
        }

        /** Where the first one stands that is not less than x. */
        private int placeAscending(int x) {
            int place = 0;
            int left = size;
            while (left > 0) {
                int half = left / 2;
                if (items[place + half] < x) {
                    place += half + 1;
                    left -= half + 1;
                } else {
                    left = half;
                }
            }
            return place;
        }
    }

    /** What a line begins with; it hands out its elements from the first on. */
    private static final class Source {
        private final Row basket;
        private int kind;
        private int b;
        private int c;
        private int given;
        private int upcoming;

        Source(Row basket) {
            this.basket = basket;
        }

        void become(int newKind, int a, int newB, int newC) {
            kind = newKind;
            b = newB;
            c = newC;
            given = 0;
            upcoming = a;
        }

        /** How many elements there are, for a source that is not endless. */
        int size() {
            return kind == BASKET ? basket.size : b;
        }

        boolean hasMore() {
            return kind == ENDLESS || given < size();
        }

        int next() {
            int x = kind == BASKET ? basket.items[given] : upcoming;
            upcoming = kind == ENDLESS ? upcoming * b + c : upcoming + 1;
            given++;
            return x;
        }
    }

    /** A stage of a line, and how far it has come. */
    private static final class Stage {
        private final Row held;
        private int op;
        private int a;
        private int n;
        private int came;
        private boolean oneFailed;

        Stage() {
            held = new Row(MAX_STEPS);
        }

        void become(int newOp, int newA, int newN) {
            op = newOp;
            a = newA;
            n = newN;
            came = 0;
            oneFailed = false;
            held.clear();
        }

        /** Whether x, which has just come, goes on at once (SORTED holds it back); not for a FLAT. */
        boolean letsOn(int x) {
            switch (op) {
                case FILTER:
                    return passes(x, a, n);
                case DISTINCT:
                    return held.insertIfNew(x);
                case SORTED:
                    held.insertAscending(x);
                    return false;
                case LIMIT:
                    return came <= n;
                case SKIP:
                    return came > n;
                case WHILE:
                    return !hasFailed(x);
                case FROM:
                    return hasFailed(x);
                default:
                    return true;
            }
        }

        /** What x is when it goes on. */
        int changed(int x) {
            return op == MAP ? mapped(x) : x;
        }

        /** Whether the stage by itself, whatever is behind it, wants none. */
        boolean isClosed() {
            return (op == LIMIT && came >= n) || (op == WHILE && oneFailed);
        }

        int flagsBehind(int ahead) {
            switch (op) {
                case MAP:
                    return ahead & ~(ASCENDING | DIFFERENT);
                case FILTER:
                case FROM:
                    return ahead & ~SIZED;
                case FLAT:
                    return ahead & ~(SIZED | ASCENDING | DIFFERENT);
                case DISTINCT:
                    return (ahead & ~SIZED) | DIFFERENT;
                case SORTED:
                    return ahead | ASCENDING;
                case LIMIT:
                    return ahead | ENDS_EARLY;
                case WHILE:
                    return (ahead & ~SIZED) | ENDS_EARLY;
                default:
                    return ahead;
            }
        }

        private int mapped(int x) {
            switch (a) {
                case 0:
                    return x + n;
                case 1:
                    return x * n;
                case 2:
                    return n - x;
                default:
                    return n == 0 ? 0 : x % n;
            }
        }

        private boolean hasFailed(int x) {
            oneFailed = oneFailed || !passes(x, a, n);
            return oneFailed;
        }
    }

    /** A source and the stages behind it. */
    private static final class Line {
        private final Source source;
        private final Stage[] stages;
        private int count;
        private boolean exists;
        private boolean used;

        Line(Source source) {
            this.source = source;
            stages = new Stage[MAX_STAGES];
            for (int k = 0; k < MAX_STAGES; k++) {
                stages[k] = new Stage();
            }
        }

        void begin() {
            count = 0;
            exists = true;
            used = false;
        }

        void add(int op, int a, int n) {
            if (count < MAX_STAGES) {
                stages[count].become(op, a, n);
                count++;
            }
        }

        int allFlags() {
            int flags = sourceFlags();
            for (int k = 0; k < count; k++) {
                flags = stages[k].flagsBehind(flags);
            }
            return flags;
        }

        private int sourceFlags() {
            switch (source.kind) {
                case BASKET:
                    return SIZED;
                case RANGE:
                    return SIZED | ASCENDING | DIFFERENT;
                default:
                    return 0;
            }
        }
    }

    /** What a line is run up to. */
    private static final class End {
        // Two rows that change places, so that a run which is spent leaves alone what is kept.
        private Row gathered;
        private Row keeping;
        private int kind;
        private int a;
        private int n;
        private int taken;
        private int value;
        private boolean decided;

        End() {
            gathered = new Row(MAX_STEPS);
            keeping = new Row(MAX_STEPS);
        }

        void begin(int newKind, int newA, int newN) {
            kind = newKind;
            a = newA;
            n = newN;
            taken = 0;
            value = newKind == FOLD ? newN : 0;
            decided = false;
            gathered.clear();
            for (int k = 0; newKind == TALLY && k < newN; k++) {
                gathered.add(0);
            }
        }

        boolean wantsMore() {
            return !decided;
        }

        void take(int x) {
            switch (kind) {
                case SUM:
                    value += x;
                    break;
                case LEAST:
                    value = taken == 0 ? x : Math.min(value, x);
                    break;
                case GREATEST:
                    value = taken == 0 ? x : Math.max(value, x);
                    break;
                case FIRST:
                    value = decided ? value : x;
                    decided = true;
                    break;
                case ANY:
                case NONE:
                    decided = decided || passes(x, a, n);
                    break;
                case ALL:
                    decided = decided || !passes(x, a, n);
                    break;
                case FOLD:
                    value = folded(x);
                    break;
                case LIST:
                    gathered.add(x);
                    break;
                case TALLY:
                    gathered.items[Math.floorMod(x, n)]++;
                    break;
                default:
                    break;
            }
            taken++;
        }

        boolean hasResult() {
            return taken > 0 || (kind != LEAST && kind != GREATEST && kind != FIRST);
        }

        int result() {
            switch (kind) {
                case COUNT:
                case LIST:
                    return taken;
                case ANY:
                    return decided ? 1 : 0;
                case ALL:
                case NONE:
                    return decided ? 0 : 1;
                case TALLY:
                    return differentRemainders();
                default:
                    return value;
            }
        }

        void keepGathered() {
            if (kind == LIST || kind == TALLY) {
                Row before = keeping;
                keeping = gathered;
                gathered = before;
            }
        }

        private int folded(int x) {
            switch (a) {
                case 0:
                    return value + x;
                case 1:
                    return value * x;
                default:
                    return value * 31 + x;
            }
        }

        private int differentRemainders() {
            int different = 0;
            for (int k = 0; k < gathered.size; k++) {
                different += gathered.items[k] > 0 ? 1 : 0;
            }
            return different;
        }
    }

    /** Runs a line one after the other. */
    private static final class Flow {
        private final Line line;
        private final End end;
        private int steps;
        private boolean spent;

        Flow(Line line, End end) {
            this.line = line;
            this.end = end;
        }

        /** False if the run is spent. */
        boolean comesToEnd() {
            steps = 0;
            spent = false;
            giveFromSource();
            for (int k = 0; k < line.count; k++) {
                if (line.stages[k].op == SORTED) {
                    giveSorted(k);
                }
            }
            return !spent;
        }

        private void giveFromSource() {
            Source source = line.source;
            for (int i = 0; i <= MAX_STEPS && source.hasMore() && mayGiveTo(0); i++) {
                passOn(0, source.next());
            }
        }

        private void giveSorted(int k) {
            Row held = line.stages[k].held;
            for (int i = 0; i < held.size && mayGiveTo(k + 1); i++) {
                passOn(k + 1, held.items[i]);
            }
        }

        private void giveFlat(int k, int x) {
            int n = line.stages[k].n;
            for (int i = 0; i < n && mayGiveTo(k + 1); i++) {
                passOn(k + 1, x + i);
            }
        }

        /** Asks what is behind; if that wants one, takes the step, or is spent if that is one too many. */
        private boolean mayGiveTo(int k) {
            if (spent || !isWantedFrom(k)) {
                return false;
            }
            if (steps == MAX_STEPS) {
                spent = true;
                return false;
            }
            steps++;
            return true;
        }

        private boolean isWantedFrom(int first) {
            for (int k = first; k < line.count; k++) {
                if (line.stages[k].op == SORTED) {
                    return true;
                }
                if (line.stages[k].isClosed()) {
                    return false;
                }
            }
            return end.wantsMore();
        }

        /** Comes here again, through giveFlat, only with a greater first: no deeper than the line is long. */
        private void passOn(int first, int given) {
            int x = given;
            for (int k = first; k < line.count; k++) {
                Stage stage = line.stages[k];
                stage.came++;
                if (stage.op == FLAT) {
                    giveFlat(k, x);
                    return;
                }
                if (!stage.letsOn(x)) {
                    return;
                }
                x = stage.changed(x);
            }
            end.take(x);
        }
    }

    /** Works on a line's elements stage by stage, as running in parts does when the pool is done. */
    private static final class PartWork {
        private final Line line;
        private final End end;
        private final Row coming;
        private final Row let;

        PartWork(Line line, End end) {
            this.line = line;
            this.end = end;
            coming = new Row(MAX_STEPS);
            let = new Row(MAX_STEPS);
        }

        /** False if the run is spent. */
        boolean comesToEnd() {
            takeSource();
            for (int k = 0; k < line.count; k++) {
                if (!workOn(line.stages[k])) {
                    return false;
                }
                coming.copyFrom(let);
            }
            for (int i = 0; i < coming.size; i++) {
                end.take(coming.items[i]);
            }
            return true;
        }

        private void takeSource() {
            coming.clear();
            for (int i = 0; i < BASKET_ROOM && line.source.hasMore(); i++) {
                coming.add(line.source.next());
            }
        }

        private boolean workOn(Stage stage) {
            let.clear();
            for (int i = 0; i < coming.size; i++) {
                stage.came++;
                if (stage.op == FLAT) {
                    if (!letFlat(coming.items[i], stage.n)) {
                        return false;
                    }
                } else if (stage.letsOn(coming.items[i])) {
                    let.add(stage.changed(coming.items[i]));
                }
            }
            if (stage.op == SORTED) {
                let.copyFrom(stage.held);
            }
            return true;
        }

        /** False if one is let go too many; only a FLAT lets more go than came to it. */
        private boolean letFlat(int x, int n) {
            for (int i = 0; i < n; i++) {
                if (let.isFull()) {
                    return false;
                }
                let.add(x + i);
            }
            return true;
        }
    }

    /** A worker's row of tasks; a task is its number of elements, as nobody can tell more of it. */
    private static final class Worker {
        private final int[] tasks;
        private int first;
        private int behindLast;
        private int done;

        Worker() {
            tasks = new int[MAX_TASKS];
        }

        void begin() {
            first = 0;
            behindLast = 0;
            done = 0;
        }

        boolean hasTasks() {
            return first < behindLast;
        }

        void addTask(int size) {
            if (behindLast < MAX_TASKS) {
                tasks[behindLast] = size;
                behindLast++;
            }
        }

        int takeLast() {
            if (!hasTasks()) {
                return 0;
            }
            behindLast--;
            return tasks[behindLast];
        }

        int takeFirst() {
            if (!hasTasks()) {
                return 0;
            }
            first++;
            return tasks[first - 1];
        }
    }

    /** The pool. */
    private static final class Crew {
        private final Worker[] workers;
        private int grain;
        private int count;
        private int seed;
        private int open;
        private int turns;
        private int thefts;

        Crew() {
            workers = new Worker[MAX_WORKERS];
            for (int w = 0; w < MAX_WORKERS; w++) {
                workers[w] = new Worker();
            }
            grain = 4;
            count = 2;
            seed = 1;
        }

        void become(int newGrain, int newCount, int newSeed) {
            grain = newGrain;
            count = newCount;
            seed = newSeed;
        }

        void workThrough(int size) {
            for (int w = 0; w < MAX_WORKERS; w++) {
                workers[w].begin();
            }
            turns = 0;
            thefts = 0;
            workers[0].addTask(size);
            open = 1;
            int s = seed;
            while (open > 0 && turns < MAX_TASKS) {
                s = s * 1103515245 + 12345;
                takeTurn((s >>> 16) % count);
                turns++;
            }
        }

        int allDone() {
            int done = 0;
            for (int w = 0; w < MAX_WORKERS; w++) {
                done += workers[w].done;
            }
            return done;
        }

        private void takeTurn(int w) {
            Worker worker = workers[w];
            int size = worker.hasTasks() ? worker.takeLast() : stolenBy(w);
            if (size > grain) {
                worker.addTask(size - size / 2);
                worker.addTask(size / 2);
                open++;
            } else {
                worker.done++;
                open--;
            }
        }

        private int stolenBy(int w) {
            for (int i = 1; i < count; i++) {
                Worker robbed = workers[(w + i) % count];
                if (robbed.hasTasks()) {
                    thefts++;
                    return robbed.takeFirst();
                }
            }
            return 0;
        }
    }
}

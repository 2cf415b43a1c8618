import java.lang.reflect.Method;
import java.lang.reflect.Modifier;
import java.util.Set;
import java.util.TreeSet;

/** What the tests share: answers and refusals that are due, counted, and told if they are not so. */
final class Checks {
    /** One after the other, and in parts. */
    static final boolean[] BOTH_WAYS = {false, true};

    private int wrong = 0;
    private int made = 0;
    private String sentence = "";

    interface Call {
        int answer();
    }

    interface Act {
        void go();
    }

    /** The document's sentence that the checks which follow are about; it is told with what is wrong. */
    void sentence(String quoted) {
        sentence = "[" + quoted + "] ";
    }

    void due(String what, int got, int want) {
        made++;
        if (got != want) {
            tell(what + " answered " + got + ", due is " + want);
        }
    }

    /** Texts compare a whole row of answers at once. */
    void due(String what, String got, String want) {
        made++;
        if (!got.equals(want)) {
            tell(what + " answered " + got + ", due is " + want);
        }
    }

    void refuses(String what, Class<? extends RuntimeException> want, Act act) {
        due(what, nameOfThrown(act), want.getSimpleName());
    }

    static String nameOfThrown(Act act) {
        try {
            act.go();
            return "nothing";
        } catch (RuntimeException e) {
            return e.getClass().getSimpleName();
        }
    }

    /** The answer as a text, or the name of what was thrown. */
    static String told(Call call) {
        try {
            return Integer.toString(call.answer());
        } catch (RuntimeException e) {
            return e.getClass().getSimpleName();
        }
    }

    void tell(String text) {
        wrong++;
        if (wrong <= 50) {
            System.out.println(sentence + text);
        }
    }

    void end() {
        System.out.println(wrong == 0 ? made + " answers are as due" : wrong + " answers are not as due");
        if (wrong != 0) {
            System.exit(1);
        }
    }

    /** A new object whose basket has these. */
    static StageLines withBasket(int... numbers) {
        StageLines x = new StageLines();
        for (int v : numbers) {
            x.put(v);
        }
        return x;
    }

    /** A new line on x; each stage is op, a, n. */
    static StageLines line(StageLines x, int[] source, int[]... stages) {
        x.source(source[0], source[1], source[2], source[3]);
        for (int[] s : stages) {
            x.stage(s[0], s[1], s[2]);
        }
        return x;
    }

    /** Uses the line of x: the answer, or the name of what was thrown. */
    static String ended(StageLines x, boolean inParts, int end, int a, int n) {
        return told(() -> inParts ? x.parts(end, a, n) : x.run(end, a, n));
    }

    /** Uses the line of x up to a LIST: the elements, or the name of what was thrown. */
    static String listed(StageLines x, boolean inParts) {
        String answer = ended(x, inParts, 9, 0, 0);
        String kept = keptOf(x);
        boolean counted = answer.equals(Integer.toString(kept.isEmpty() ? 0 : kept.split(" ").length));
        return counted ? kept : answer + " with " + kept;
    }

    static String way(boolean inParts) {
        return inParts ? " in parts" : " one after the other";
    }

    static int[] basket() {
        return new int[] {0, 0, 0, 0};
    }

    static int[] range(int a, int b) {
        return new int[] {1, a, b, 0};
    }

    static int[] endless(int a, int b, int c) {
        return new int[] {2, a, b, c};
    }

    static int[] op(int op, int a, int n) {
        return new int[] {op, a, n};
    }

    /** What kept() tells, up to the first one that is not there. */
    static String keptOf(StageLines x) {
        StringBuilder text = new StringBuilder();
        for (int k = 0; k <= 700; k++) {
            final int at = k;
            String one = told(() -> x.kept(at));
            if (one.equals("NoSuchElementException")) {
                break;
            }
            text.append(k == 0 ? "" : " ").append(one);
        }
        return text.toString();
    }

    static String seenOf(StageLines x) {
        StringBuilder text = new StringBuilder();
        for (int k = 0; k < 7 && x.seen(k) >= 0; k++) {
            text.append(k == 0 ? "" : " ").append(x.seen(k));
        }
        return text.toString();
    }

    static String pooledOf(StageLines x) {
        StringBuilder text = new StringBuilder();
        for (int what = 0; what <= 6; what++) {
            text.append(what == 0 ? "" : " ").append(x.pooled(what));
        }
        return text.toString();
    }

    /** The names of the public methods, each once. */
    static Set<String> faceNames() {
        Set<String> names = new TreeSet<>();
        for (Method m : StageLines.class.getDeclaredMethods()) {
            if (Modifier.isPublic(m.getModifiers())) {
                names.add(m.getName());
            }
        }
        return names;
    }
}

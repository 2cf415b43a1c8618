/** The sentences of ONE AFTER THE OTHER (promises 7 and 10): who asks, who wants none, and the 601st step. */
public final class AskingEdgesTest {
    private static final Checks CHECKS = new Checks();
    private static final String SPENT = "UnsupportedOperationException: ";
    private static final int[] PEEK = {7, 0, 0};
    private static final int[] SORTED = {4, 0, 0};
    private static final int[] FLAT = {2, 0, 4};
    private static final int[] TEN = Checks.range(1, 10);
    private static final int[] NUMBERS = Checks.endless(1, 1, 1);

    public static void main(String[] args) {
        theSourceAsks();
        aFlatAsks();
        aSortedAsks();
        aSortedGivesWhenNothingMoreComes();
        aLimitWantsNone();
        aWhileWantsNone();
        endsWantNone();
        otherEndsWantAll();
        everyStageWantsNone();
        aSortedAlwaysWantsMore();
        whatCameIsSeen();
        the601stOfTheSource();
        the601stOfAFlat();
        the601stOfASorted();
        the601stIsAskedForFirst();
        givenAlike();
        CHECKS.end();
    }

    private static StageLines line(int[] source, int[]... stages) {
        return Checks.line(Checks.withBasket(3, 1, 2), source, stages);
    }

    private static String answerAndSeen(StageLines x, int end, int a, int n) {
        return Checks.ended(x, false, end, a, n) + ": " + Checks.seenOf(x);
    }

    private static void counts(String what, StageLines x, String want) {
        CHECKS.due(what, answerAndSeen(x, 0, 0, 0), want);
    }

    private static void theSourceAsks() {
        CHECKS.sentence("each time before it gives an element it ASKS what is behind; when that WANTS none, "
            + "it gives no more: the source");
        counts("none is wanted", line(TEN, PEEK, Checks.op(5, 0, 0)), "0: 0 0");
        counts("one is wanted", line(TEN, PEEK, Checks.op(5, 0, 1)), "1: 1 1");
        counts("all but one are wanted", line(TEN, PEEK, Checks.op(5, 0, 9)), "9: 9 9");
        counts("more than there are are wanted", line(TEN, PEEK, Checks.op(5, 0, 11)), "10: 10 10");
        counts("of a basket", line(Checks.basket(), PEEK, Checks.op(5, 0, 1)), "1: 1 1");
        counts("of an endless one", line(NUMBERS, PEEK, Checks.op(5, 0, 2)), "2: 2 2");
        counts("of none", line(Checks.range(0, 0), PEEK), "0: 0");
    }

    private static void aFlatAsks() {
        CHECKS.sentence("each time before it gives an element it ASKS what is behind; when that WANTS none, "
            + "it gives no more: a FLAT");
        counts("in its midst", line(TEN, FLAT, PEEK, Checks.op(5, 0, 6)), "6: 2 6 6");
        counts("at its end", line(TEN, FLAT, PEEK, Checks.op(5, 0, 8)), "8: 2 8 8");
        counts("at its beginning", line(TEN, FLAT, PEEK, Checks.op(5, 0, 5)), "5: 2 5 5");
        counts("one in another", line(TEN, FLAT, FLAT, PEEK, Checks.op(5, 0, 2)), "2: 1 1 2 2");
        counts("for what is behind it alone", line(TEN, Checks.op(5, 0, 1), FLAT, PEEK), "4: 1 1 4");
        CHECKS.due("for the end", answerAndSeen(line(TEN, FLAT, PEEK), 5, 0, 2), "1: 1 2");
    }

    private static void aSortedAsks() {
        CHECKS.sentence("each time before it gives an element it ASKS what is behind; when that WANTS none, "
            + "it gives no more: a SORTED");
        counts("none is wanted", line(TEN, SORTED, PEEK, Checks.op(5, 0, 0)), "0: 10 0 0");
        counts("two are wanted", line(TEN, SORTED, PEEK, Checks.op(5, 0, 2)), "2: 10 2 2");
        counts("till one doesn't pass", line(TEN, SORTED, PEEK, Checks.op(8, 2, 4)), "3: 10 4 4");
        counts("through a FLAT", line(TEN, SORTED, FLAT, Checks.op(5, 0, 5)), "5: 10 2 5");
        CHECKS.due("for the end", answerAndSeen(line(TEN, SORTED, PEEK), 4, 0, 0), "1: 10 1");
    }

    private static void aSortedGivesWhenNothingMoreComes() {
        CHECKS.sentence("What GIVES is .. a SORTED when nothing more comes to it");
        counts("a SPENT run comes not so far", line(NUMBERS, SORTED, PEEK), SPENT + "600 0");
        CHECKS.due("not the first that came", answerAndSeen(line(Checks.basket(), SORTED, PEEK), 4, 0, 0), "1: 3 1");
        counts("when the source has no more", line(TEN, SORTED, PEEK), "10: 10 10");
        counts("when a LIMIT ahead wants no more", line(NUMBERS, Checks.op(5, 0, 3), SORTED, PEEK), "3: 3 3 3");
        counts("when a LIMIT ahead wants none", line(NUMBERS, Checks.op(5, 0, 0), SORTED, PEEK), "0: 0 0 0");
        counts("when a WHILE ahead wants no more", line(NUMBERS, Checks.op(8, 2, 3), SORTED, PEEK), "2: 3 2 2");
        counts("a second one behind the first", line(TEN, SORTED, PEEK, SORTED, PEEK, Checks.op(5, 0, 1)),
            "1: 10 10 10 1 1");
        counts("nothing came", line(Checks.range(0, 0), SORTED, PEEK), "0: 0 0");
    }

    private static void aLimitWantsNone() {
        CHECKS.sentence("A LIMIT wants none once it has let n through");
        counts("n 0", line(NUMBERS, PEEK, Checks.op(5, 0, 0), PEEK), "0: 0 0 0");
        counts("n 1", line(NUMBERS, PEEK, Checks.op(5, 0, 1), PEEK), "1: 1 1 1");
        counts("n 100", line(NUMBERS, PEEK, Checks.op(5, 0, 100), PEEK), "100: 100 100 100");
        counts("let through is enough, though they don't come far",
            line(NUMBERS, PEEK, Checks.op(5, 0, 3), Checks.op(1, 0, 9)), "0: 3 3 3");
    }

    private static void aWhileWantsNone() {
        CHECKS.sentence("a WHILE once one didn't pass");
        counts("the first", line(NUMBERS, PEEK, Checks.op(8, 3, 1), PEEK), "0: 1 1 0");
        counts("the third", line(NUMBERS, PEEK, Checks.op(8, 2, 3), PEEK), "2: 3 3 2");
        counts("none", line(TEN, PEEK, Checks.op(8, 2, 99), PEEK), "10: 10 10 10");
        counts("a FROM wants them all", line(TEN, PEEK, Checks.op(9, 2, 3), PEEK), "8: 10 10 8");
    }

    private static void endsWantNone() {
        CHECKS.sentence("the end FIRST once one came");
        CHECKS.due("at once", answerAndSeen(line(NUMBERS, PEEK), 4, 0, 0), "1: 1");
        CHECKS.due("the fourth", answerAndSeen(line(NUMBERS, Checks.op(6, 0, 3), PEEK), 4, 0, 0), "4: 4 1");
        CHECKS.sentence("ANY and NONE once one passed");
        CHECKS.due("ANY, at once", answerAndSeen(line(NUMBERS, PEEK), 5, 0, 1), "1: 1");
        CHECKS.due("ANY, the fourth", answerAndSeen(line(NUMBERS, PEEK), 5, 3, 3), "1: 4");
        CHECKS.due("ANY, never", answerAndSeen(line(TEN, PEEK), 5, 0, 11), "0: 10");
        CHECKS.due("ANY, never without end", answerAndSeen(line(NUMBERS, PEEK), 5, 2, 1), SPENT + "600");
        CHECKS.due("NONE, at once", answerAndSeen(line(NUMBERS, PEEK), 7, 0, 1), "0: 1");
        CHECKS.due("NONE, the fourth", answerAndSeen(line(NUMBERS, PEEK), 7, 3, 3), "0: 4");
        CHECKS.due("NONE, never", answerAndSeen(line(TEN, PEEK), 7, 0, 11), "1: 10");
        CHECKS.sentence("ALL once one didn't");
        CHECKS.due("at once", answerAndSeen(line(NUMBERS, PEEK), 6, 3, 1), "0: 1");
        CHECKS.due("the fourth", answerAndSeen(line(NUMBERS, PEEK), 6, 2, 4), "0: 4");
        CHECKS.due("never", answerAndSeen(line(TEN, PEEK), 6, 2, 11), "1: 10");
    }

    private static void otherEndsWantAll() {
        CHECKS.sentence("when that WANTS none: of the ends FIRST, ANY, NONE and ALL alone");
        int[] ends = {0, 1, 2, 3, 8, 9, 10};
        for (int end : ends) {
            StageLines x = line(TEN, PEEK);
            Checks.ended(x, false, end, 1, 1);
            CHECKS.due("end " + end, x.seen(0), 10);
            StageLines y = line(NUMBERS, PEEK);
            CHECKS.due("end " + end + " without end", Checks.ended(y, false, end, 1, 1),
                "UnsupportedOperationException");
        }
    }

    private static void everyStageWantsNone() {
        CHECKS.sentence("every stage also wants none when what is behind it doesn't");
        int[][] between = {{0, 0, 5}, {1, 1, 99}, {2, 0, 1}, {3, 0, 0}, {5, 0, 50}, {6, 0, 0}, {7, 0, 0}, {8, 1, 99},
            {9, 1, 1}};
        for (int[] stage : between) {
            counts("op " + stage[0] + " ahead of a LIMIT", line(NUMBERS, stage, Checks.op(5, 0, 3)), "3: 3 3");
            counts("op " + stage[0] + " ahead of a LIMIT of none", line(NUMBERS, stage, Checks.op(5, 0, 0)), "0: 0 0");
            StageLines ahead = line(NUMBERS, stage, Checks.op(8, 1, stage[0] == 0 ? 7 : 2));
            counts("op " + stage[0] + " ahead of a WHILE", ahead, "1: 2 2");
            StageLines first = line(NUMBERS, stage);
            Checks.ended(first, false, 4, 0, 0);
            CHECKS.due("op " + stage[0] + " ahead of FIRST", first.seen(0), 1);
        }
        counts("six of them", line(NUMBERS, PEEK, PEEK, PEEK, PEEK, PEEK, Checks.op(5, 0, 2)), "2: 2 2 2 2 2 2");
    }

    private static void aSortedAlwaysWantsMore() {
        CHECKS.sentence("but a SORTED always wants more till nothing comes");
        counts("ahead of a LIMIT of none", line(TEN, PEEK, SORTED, Checks.op(5, 0, 0)), "0: 10 10 0");
        CHECKS.due("ahead of FIRST", answerAndSeen(line(TEN, PEEK, SORTED), 4, 0, 0), "1: 10 10");
        counts("without end", line(NUMBERS, SORTED, Checks.op(5, 0, 0)), SPENT + "600 0");
        counts("from a FLAT", line(TEN, FLAT, SORTED, Checks.op(5, 0, 1)), "1: 10 40 1");
        counts("from another SORTED", line(TEN, SORTED, PEEK, SORTED, Checks.op(5, 0, 1)), "1: 10 10 10 1");
        counts("a LIMIT ahead of it still wants none", line(TEN, PEEK, Checks.op(5, 0, 2), SORTED, Checks.op(5, 0, 1)),
            "1: 2 2 2 1");
    }

    private static void whatCameIsSeen() {
        CHECKS.sentence("What came to a stage is SEEN by it");
        counts("what a FILTER keeps back", line(TEN, Checks.op(1, 0, 4), PEEK), "1: 10 1");
        counts("what a DISTINCT keeps back", line(Checks.endless(1, 0, 1), Checks.op(5, 0, 7), Checks.op(3, 0, 0), PEEK),
            "1: 7 7 1");
        counts("what a SKIP keeps back", line(TEN, Checks.op(6, 0, 8), PEEK), "2: 10 2");
        counts("the one that a WHILE stops at", line(TEN, Checks.op(8, 2, 1), PEEK), "0: 1 0");
        counts("what a FROM keeps back", line(TEN, Checks.op(9, 2, 10), PEEK), "1: 10 1");
        counts("of a FLAT what came, not what it gives", line(TEN, FLAT, PEEK), "40: 10 40");
        counts("a FLAT of none", line(TEN, Checks.op(2, 0, 0), PEEK), "0: 10 0");
        counts("of a SORTED what came", line(Checks.basket(), SORTED, PEEK), "3: 3 3");
    }

    private static void the601stOfTheSource() {
        CHECKS.sentence("the 601st is not given: the run ends there, SPENT: the source's");
        counts("a PEEK", line(NUMBERS, PEEK, PEEK), SPENT + "600 600");
        CHECKS.due("the 600th is given", answerAndSeen(line(NUMBERS, PEEK), 5, 0, 600), "1: 600");
        CHECKS.due("the 601st is not", answerAndSeen(line(NUMBERS, PEEK), 5, 0, 601), SPENT + "600");
        counts("a FILTER of none", line(NUMBERS, Checks.op(1, 2, 0), PEEK), SPENT + "600 0");
        counts("a FLAT of none", line(NUMBERS, Checks.op(2, 0, 0), PEEK), SPENT + "600 0");
        counts("a SORTED behind gives nothing", line(NUMBERS, SORTED, SORTED, PEEK), SPENT + "600 0 0");
        counts("behind the fourth of a FLAT", line(NUMBERS, FLAT, PEEK), SPENT + "120 480");
    }

    /** Twos behind one another: 1 + 2 + 4 + 8 = 15 steps an element of the source. */
    private static void the601stOfAFlat() {
        CHECKS.sentence("the 601st is not given: the run ends there, SPENT: a FLAT's");
        int[] two = Checks.op(2, 0, 2);
        counts("40 * 15 = 600 steps", line(Checks.range(0, 40), two, two, two, PEEK), "320: 40 80 160 320");
        counts("40 * 19 steps", line(Checks.range(0, 40), two, two, Checks.op(2, 0, 3), PEEK),
            SPENT + "32 64 126 378");
        counts("in the midst of a FLAT", line(Checks.range(0, 40), FLAT, FLAT, PEEK), SPENT + "29 115 456");
        counts("nobody gives any more behind that", line(Checks.range(0, 40), FLAT, FLAT, SORTED, PEEK),
            SPENT + "29 115 456 0");
    }

    private static void the601stOfASorted() {
        CHECKS.sentence("the 601st is not given: the run ends there, SPENT: a SORTED's");
        counts("24 + 96 + 5 * 96 = 600 steps",
            line(Checks.range(0, 24), FLAT, SORTED, SORTED, SORTED, SORTED, SORTED), "96: 24 96 96 96 96 96");
        counts("40 + 160 + 160 + 160 and 80 more", line(Checks.range(0, 40), FLAT, SORTED, SORTED, SORTED, PEEK),
            SPENT + "40 160 160 160 80");
        counts("the second gives nothing then",
            line(Checks.endless(0, 1, 1), Checks.op(5, 0, 100), FLAT, SORTED, SORTED, PEEK),
            SPENT + "100 100 400 100 0");
    }

    private static void the601stIsAskedForFirst() {
        CHECKS.sentence("before it gives an element it ASKS what is behind: nobody who wants the 601st, no SPENT run");
        CHECKS.due("the end has enough with the 600th", answerAndSeen(line(NUMBERS, Checks.op(1, 0, 600)), 4, 0, 0),
            "600: 600");
        counts("a LIMIT", line(NUMBERS, Checks.op(1, 4, 6), Checks.op(5, 0, 100)), "100: 600 100");
        counts("a WHILE", line(NUMBERS, Checks.op(8, 2, 600)), "599: 600");
        counts("a WHILE that needs the 601st", line(NUMBERS, Checks.op(8, 2, 601)), SPENT + "600");
        counts("behind a FLAT: 100 + 400 + 100 steps",
            line(NUMBERS, Checks.op(5, 0, 100), FLAT, SORTED, Checks.op(5, 0, 100)), "100: 100 100 400 100");
        counts("one more", line(NUMBERS, Checks.op(5, 0, 100), FLAT, SORTED, Checks.op(6, 0, 1), Checks.op(5, 0, 100)),
            SPENT + "100 100 400 100 99");
    }

    private static void givenAlike() {
        CHECKS.sentence("Each element given (by source, FLAT, SORTED alike) is a STEP");
        counts("a LIMIT and a PEEK take none",
            line(NUMBERS, PEEK, PEEK, Checks.op(0, 0, 1), Checks.op(6, 0, 100), Checks.op(5, 0, 100)),
            "100: 200 200 200 200 100");
        CHECKS.due("six stages, 600 of the source", answerAndSeen(
            line(NUMBERS, PEEK, PEEK, Checks.op(0, 0, 0), Checks.op(3, 0, 0), PEEK, Checks.op(9, 2, 600)), 4, 0, 0),
            "600: 600 600 600 600 600 600");
        counts("what is asked for in vain is none", line(Checks.range(0, 24), FLAT, SORTED, SORTED, SORTED, SORTED,
            Checks.op(5, 0, 0)), "0: 24 96 96 96 96 0");
        StageLines x = line(NUMBERS);
        Checks.ended(x, false, 0, 0, 0);
        Checks.line(x, NUMBERS, Checks.op(1, 0, 600));
        CHECKS.due("the next line's steps are counted anew", answerAndSeen(x, 4, 0, 0), "600: 600");
    }
}

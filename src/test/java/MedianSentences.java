/** The sentences about medians: the term, and the promises 9, 18 and 20. */
final class MedianSentences {
    private static final int NO = Rafts.NO_ESTIMATE;

    private MedianSentences() {
    }

    static void run(Book book) {
        book.sentence("Medians", "To agree, at least 3 navigators that are neither asleep nor sulk must have an estimate",
            MedianSentences::atLeastThree);
        book.sentence("Medians", "the median is that estimate of theirs which is in the middle, when they are sorted",
            MedianSentences::inTheMiddle);
        book.sentence("Medians", "the lower one of two", MedianSentences::lowerOfTwo);
        book.sentence("Medians", "The raft believes the median then.", MedianSentences::believed);
        book.sentence("Medians", "Of these navigators each one whose estimate is farther than QUARREL from the median is angrier by"
            + " 1", MedianSentences::angrier);
        book.sentence("Medians", "and sulks with an anger of 3 or more", MedianSentences::sulks);
        book.sentence("Medians", "each other one of them has the anger 0", MedianSentences::calm);
        book.sentence("Medians", "All their estimates are gone then", MedianSentences::gone);
        book.sentence("Medians", "(those of others stay)", MedianSentences::othersStay);
        book.sentence("Promise 9", "The navigators agree on the median. This is a change.", MedianSentences::agreeIsAChange);
        book.sentence("Promise 9", "Returns the median and 5400", MedianSentences::answersMedian);
        book.sentence("Promise 9", "NOT_POSSIBLE if too few of them have an estimate", MedianSentences::tooFewToAgree);
        book.sentence("Promise 18", "Returns the median that there would be now without a navigator.", MedianSentences::without);
        book.sentence("Promise 18", "`navigator`: 0 to 6, or NONE for with all", MedianSentences::withAll);
        book.sentence("Promise 18", "Returns the median and 5400", MedianSentences::foretellsMedian);
        book.sentence("Promise 18", "NO_SUCH if there is no such navigator", MedianSentences::withoutNobody);
        book.sentence("Promise 18", "NOT_POSSIBLE if too few would have an estimate", MedianSentences::tooFewWithout);
        book.sentence("Promise 20", "Finds the navigator whose estimate is nearest to the latitude of the raft",
            MedianSentences::nearest);
        book.sentence("Promise 20", "of several the lowest one", MedianSentences::nearestOfSeveral);
        book.sentence("Promise 20", "`what`: 0 the navigator, 1 how far it is", MedianSentences::navigatorAndDistance);
        book.sentence("Promise 20", "BAD_VALUE if what is neither", MedianSentences::neither);
        book.sentence("Promise 20", "NONE if there is no estimate", MedianSentences::noEstimate);
    }

    private static void atLeastThree() {
        for (int many = 0; many <= 7; many++) {
            LampLatitudes x = Rafts.estimating(new int[many]);
            int due = many < 3 ? LampLatitudes.NOT_POSSIBLE : 5400;
            Due.due("median(NONE) of " + many, x.median(LampLatitudes.NONE), due);
            Due.due("agree() of " + many, x.agree(), due);
        }
        LampLatitudes x = Rafts.estimating(NO, 1, NO, NO, 2, NO, 3);
        Due.due("agree() of three, not the first ones", x.agree(), 5402);
        x = Rafts.estimating(1, 2, 3);
        x.sleep(1);
        Due.due("agree() of three, one asleep", x.agree(), LampLatitudes.NOT_POSSIBLE);
        x.sleep(1);
        Due.due("agree() of three, awake again", x.agree(), 5402);
        x = new LampLatitudes();
        Rafts.anger(x, 0, 3);
        Rafts.estimate(x, NO, 1, 2);
        x.sight(0, 0);
        Due.due("agree() of three, one sulking", x.agree(), LampLatitudes.NOT_POSSIBLE);
        Rafts.estimateOne(x, 3, 3);
        Due.due("agree() of three, a fourth one sulking", x.agree(), 5402);
    }

    private static void inTheMiddle() {
        dueMedian(0, -5400, 0, 5400);
        dueMedian(7, 5400, -5400, 7);
        dueMedian(7, 7, 5400, -5400);
        dueMedian(-7, -8, -6, -7);
        dueMedian(3, 5, 1, 4, 2, 3);
        dueMedian(3, 3, 5, 1, 4, 2);
        dueMedian(4, 1, 7, 2, 6, 3, 5, 4);
        dueMedian(4, 4, 3, 2, 1, 7, 6, 5);
        dueMedian(9, 9, 9, 1);
        dueMedian(9, 9, 9, 9, 9, 9, 9, 9);
        dueMedian(-1, 1, -1, 1, -1, 1, -1, -1);
        dueMedian(2, NO, 3, NO, 1, NO, 2, NO);
    }

    private static void lowerOfTwo() {
        dueMedian(-10, 40, -30, 20, -10);
        dueMedian(20, 20, 21, 22, 1);
        dueMedian(-22, -20, -21, -22, -23);
        dueMedian(2, 1, 3, 2, 4);
        dueMedian(3, 6, 5, 4, 3, 2, 1);
        dueMedian(3, 1, 2, 3, 4, 5, 6);
        dueMedian(-5400, 5400, 5400, -5400, -5400);
        dueMedian(5, 5, 5, 5, 5);
        dueMedian(5, 5, 6, 5, 6, 5, 6);
        dueMedian(1, NO, 4, 3, NO, 1, 0);
    }

    private static void dueMedian(int median, int... estimates) {
        LampLatitudes x = Rafts.estimating(estimates);
        Due.due("median(NONE)", x.median(LampLatitudes.NONE), median + 5400);
        Due.due("agree()", x.agree(), median + 5400);
    }

    private static void believed() {
        LampLatitudes x = Rafts.estimating(1, 2);
        x.agree();
        Due.due("count(1), no median", x.count(1), LampLatitudes.NONE);
        Rafts.estimateOne(x, 2, 5400);
        x.median(LampLatitudes.NONE);
        Due.due("count(1), no median yet", x.count(1), LampLatitudes.NONE);
        x.agree();
        Due.due("count(1)", x.count(1), 5402);
        Rafts.estimate(x, -5400, -5400, -5400);
        x.agree();
        Due.due("count(1), in place of it", x.count(1), 0);
        Due.due("count(10)", x.count(10), 5400);
        x.agree();
        Due.due("count(1), no median since", x.count(1), 0);
    }

    private static void dueAngers(LampLatitudes x, int... angers) {
        for (int navigator = 0; navigator < angers.length; navigator++) {
            Due.due("the anger of " + navigator, x.of(navigator, 3), angers[navigator]);
        }
    }

    private static void angrier() {
        LampLatitudes x = Rafts.estimating(0, 60, -60, 61, -61, 0, 0);
        x.agree();
        dueAngers(x, 0, 0, 0, 1, 1, 0, 0);
        Due.due("count(7)", x.count(7), 2);
        x.set(LampLatitudes.QUARREL, 1);
        Rafts.estimate(x, 50, 50, 50, 51, 52, 49, 48);
        x.agree();
        dueAngers(x, 0, 0, 0, 0, 2, 0, 1);
        Due.due("count(7), all together", x.count(7), 4);
        x = Rafts.estimating(-100, -40, -39, -160, -161, -100, -100);
        x.agree();
        dueAngers(x, 0, 0, 1, 0, 1, 0, 0);
    }

    private static void sulks() {
        for (int navigator = 0; navigator < 7; navigator++) {
            LampLatitudes x = new LampLatitudes();
            Rafts.anger(x, navigator, 2);
            Due.due("of(" + navigator + ", 6), with the anger 2", x.of(navigator, 6), 0);
            Due.due("count(9)", x.count(9), 0);
            x = new LampLatitudes();
            Rafts.anger(x, navigator, 3);
            Due.due("of(" + navigator + ", 6), with the anger 3", x.of(navigator, 6), 2);
            Due.due("count(9)", x.count(9), 1 << navigator);
            Due.due("count(7)", x.count(7), 3);
        }
    }

    private static void calm() {
        LampLatitudes x = new LampLatitudes();
        Rafts.anger(x, 0, 2);
        Rafts.estimate(x, 49, 0, 0);
        x.agree();
        dueAngers(x, 0, 0, 0);
        Due.due("of(0, 6)", x.of(0, 6), 0);
        Rafts.anger(x, 0, 2);
        Due.due("of(0, 6), angry from 0 on", x.of(0, 6), 0);
        x.sleep(0);
        Rafts.estimate(x, NO, 0, 0, 0);
        x.agree();
        dueAngers(x, 2, 0, 0, 0);
        x.sleep(0);
        Rafts.estimate(x, NO, 0, 0, 0);
        x.agree();
        Due.due("of(0, 3), without an estimate", x.of(0, 3), 2);
        Rafts.estimate(x, 50, 0, 0);
        x.agree();
        Rafts.estimate(x, NO, 0, 0, 0);
        x.agree();
        Due.due("of(0, 3), sulking", x.of(0, 3), 3);
        Due.due("of(0, 6), sulking", x.of(0, 6), 2);
    }

    private static void gone() {
        LampLatitudes x = Rafts.estimating(0, 1, 2, 3, 4, 100, -100);
        x.agree();
        for (int navigator = 0; navigator < 7; navigator++) {
            Due.due("of(" + navigator + ", 5)", x.of(navigator, 5), LampLatitudes.NONE);
        }
        Due.due("count(8)", x.count(8), 0);
        Due.due("median(NONE)", x.median(LampLatitudes.NONE), LampLatitudes.NOT_POSSIBLE);
        Due.due("agree() once more", x.agree(), LampLatitudes.NOT_POSSIBLE);
        x = new LampLatitudes();
        Rafts.anger(x, 6, 3);
        Due.due("of(6, 5), sulking", x.of(6, 5), LampLatitudes.NONE);
        Due.due("count(8)", x.count(8), 0);
    }

    private static void othersStay() {
        LampLatitudes x = Rafts.estimating(100, 0, 0, 0, NO, NO, -5400);
        x.sleep(0);
        x.sleep(6);
        Due.due("agree()", x.agree(), 5400);
        Due.due("of(0, 5), asleep", x.of(0, 5), 5500);
        Due.due("of(6, 5), asleep", x.of(6, 5), 0);
        Due.due("count(8)", x.count(8), 65);
        Due.due("of(0, 3), not angrier", x.of(0, 3), 0);
        Due.due("count(7)", x.count(7), 0);
        x.sleep(0);
        Rafts.estimate(x, NO, 0, 0);
        Due.due("agree(), awake again", x.agree(), 5400);
        Due.due("of(0, 3), angrier", x.of(0, 3), 1);
        Due.due("count(8)", x.count(8), 64);
    }

    private static void agreeIsAChange() {
        Rafts.dueOneChange("agree()", LampLatitudes::agree);
        LampLatitudes x = Rafts.estimating(5, 5, 5);
        x.agree();
        Due.due("undo()", x.undo(), 5);
        Due.due("count(1)", x.count(1), LampLatitudes.NONE);
        Due.due("count(8)", x.count(8), 7);
        Due.due("count(6)", x.count(6), 0);
    }

    private static void answersMedian() {
        for (int median : new int[] {-5400, -5399, -1, 0, 1, 5399, 5400}) {
            LampLatitudes x = Rafts.estimating(median, median, median);
            Due.due("agree()", x.agree(), median + 5400);
        }
    }

    private static void tooFewToAgree() {
        LampLatitudes x = new LampLatitudes();
        Due.due("agree() of none", x.agree(), LampLatitudes.NOT_POSSIBLE);
        x = Rafts.estimating(3, 2);
        Due.due("agree() of two", x.agree(), LampLatitudes.NOT_POSSIBLE);
        Due.due("count(1)", x.count(1), LampLatitudes.NONE);
        Due.due("count(6)", x.count(6), 0);
        Due.due("count(8)", x.count(8), 3);
        Rafts.estimateOne(x, 6, 1);
        Due.due("agree() of three", x.agree(), 5402);
        Due.due("count(6)", x.count(6), 1);
    }

    private static void without() {
        LampLatitudes x = Rafts.estimating(40, -30, 20, -10);
        int[] medians = {-10, 20, -10, 20, -10, -10, -10};
        for (int navigator = 0; navigator < 7; navigator++) {
            Due.due("median(" + navigator + ") of four", x.median(navigator), medians[navigator] + 5400);
        }
        x = Rafts.estimating(7, 6, 5, 4, 3, 2, 1);
        int[] ofSeven = {3, 3, 3, 3, 4, 4, 4};
        for (int navigator = 0; navigator < 7; navigator++) {
            Due.due("median(" + navigator + ") of seven", x.median(navigator), ofSeven[navigator] + 5400);
        }
        x.sleep(6);
        Due.due("median(6), asleep", x.median(6), 5404);
        Due.due("median(0), another one asleep", x.median(0), 5404);
        Due.due("count(8), nothing changes", x.count(8), 127);
    }

    private static void withAll() {
        LampLatitudes x = Rafts.estimating(5, 6, 9, 7);
        Due.due("median(NONE)", x.median(-6), 5406);
        Due.due("median(0), the first navigator", x.median(0), 5407);
        Due.due("median(6), the last one", x.median(6), 5406);
        Due.due("median(7)", x.median(7), LampLatitudes.NO_SUCH);
        Due.due("median(-1)", x.median(-1), LampLatitudes.NO_SUCH);
        Due.due("agree(), as median(NONE)", x.agree(), 5406);
    }

    private static void foretellsMedian() {
        for (int median : new int[] {-5400, -1, 0, 1, 5400}) {
            LampLatitudes x = Rafts.estimating(median, median, median, median);
            Due.due("median(NONE)", x.median(LampLatitudes.NONE), median + 5400);
            Due.due("median(3)", x.median(3), median + 5400);
        }
    }

    private static void withoutNobody() {
        for (int many : new int[] {0, 2, 3, 7}) {
            LampLatitudes x = Rafts.estimating(new int[many]);
            for (int navigator : new int[] {-1, -2, -5, -7, 7, 8, Integer.MIN_VALUE, Integer.MAX_VALUE}) {
                Due.due("median(" + navigator + ") of " + many, x.median(navigator), LampLatitudes.NO_SUCH);
            }
        }
    }

    private static void tooFewWithout() {
        LampLatitudes x = Rafts.estimating(1, 2);
        Due.due("median(NONE) of two", x.median(LampLatitudes.NONE), LampLatitudes.NOT_POSSIBLE);
        Due.due("median(6) of two", x.median(6), LampLatitudes.NOT_POSSIBLE);
        Rafts.estimateOne(x, 2, 3);
        for (int navigator = 0; navigator < 7; navigator++) {
            Due.due("median(" + navigator + ") of three", x.median(navigator), navigator < 3 ? LampLatitudes.NOT_POSSIBLE : 5402);
        }
        Rafts.estimateOne(x, 3, 4);
        x.sleep(3);
        Due.due("median(0) of three and one asleep", x.median(0), LampLatitudes.NOT_POSSIBLE);
        Due.due("median(3), who is asleep", x.median(3), 5402);
        x.sleep(3);
        Due.due("median(0) of four", x.median(0), 5403);
    }

    private static void nearest() {
        LampLatitudes x = Rafts.estimating(50, -49, 300, -300);
        Due.due("nearest(0)", x.nearest(0), 1);
        x.set(LampLatitudes.DRIFT, 1);
        x.sail(2);
        Due.due("nearest(0), from 2 to the north", x.nearest(0), 0);
        x.sleep(0);
        Due.due("nearest(0), who is asleep", x.nearest(0), 0);
        LampLatitudes mistaken = Rafts.believing(50);
        Rafts.estimate(mistaken, 50, 30, -20);
        Due.due("nearest(0), not to what the raft believes", mistaken.nearest(0), 2);
        Due.due("nearest(0), all at the poles but one", Rafts.estimating(-5400, 5400, 5399).nearest(0), 2);
        Due.due("nearest(0), the last one", Rafts.estimating(7, -6, 5, -4, 3, -2, 1).nearest(0), 6);
    }

    private static void nearestOfSeveral() {
        Due.due("nearest(0), of two beside", Rafts.estimating(9, 7, -7, 8).nearest(0), 1);
        Due.due("nearest(0), of two beside", Rafts.estimating(9, -7, 7, 8).nearest(0), 1);
        Due.due("nearest(0), of seven", Rafts.estimating(4, 4, 4, 4, 4, 4, 4).nearest(0), 0);
        Due.due("nearest(0), of the last two", Rafts.estimating(NO, NO, NO, NO, 2, 1, 1).nearest(0), 5);
    }

    private static void navigatorAndDistance() {
        LampLatitudes x = Rafts.estimating(NO, NO, -33, 34);
        Due.due("nearest(0)", x.nearest(0), 2);
        Due.due("nearest(1)", x.nearest(1), 33);
        x.set(LampLatitudes.DRIFT, -30);
        x.sail(1);
        Due.due("nearest(1), nearer", x.nearest(1), 3);
        x.sail(1);
        Due.due("nearest(1), on its other side", x.nearest(1), 27);
        Due.due("nearest(1), exact", Rafts.estimating(1, 0).nearest(1), 0);
        Due.due("nearest(0), exact", Rafts.estimating(1, 0).nearest(0), 1);
        Due.due("nearest(1), a pole away", Rafts.estimating(-5400).nearest(1), 5400);
    }

    private static void neither() {
        LampLatitudes none = new LampLatitudes();
        LampLatitudes one = Rafts.estimating(4);
        for (int what : new int[] {-1, 2, -6, Integer.MIN_VALUE, Integer.MAX_VALUE}) {
            Due.due("nearest(" + what + ")", none.nearest(what), LampLatitudes.BAD_VALUE);
            Due.due("nearest(" + what + ")", one.nearest(what), LampLatitudes.BAD_VALUE);
        }
        Due.due("nearest(1)", one.nearest(1), 4);
    }

    private static void noEstimate() {
        LampLatitudes x = new LampLatitudes();
        Due.due("nearest(0)", x.nearest(0), LampLatitudes.NONE);
        Due.due("nearest(1)", x.nearest(1), LampLatitudes.NONE);
        Rafts.estimate(x, 0, 0, 0);
        Due.due("nearest(1), an estimate of 0", x.nearest(1), 0);
        x.agree();
        Due.due("nearest(0), after a median", x.nearest(0), LampLatitudes.NONE);
        Rafts.estimateOne(x, 6, -1);
        Due.due("nearest(0), one estimate", x.nearest(0), 6);
        x.night();
        Due.due("nearest(1), after a night", x.nearest(1), LampLatitudes.NONE);
    }
}

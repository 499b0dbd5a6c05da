/** The sentences about nights and the log: the term, and the promises 11 and 14. */
final class NightSentences {
    private static final int NO = Rafts.NO_ESTIMATE;

    private NightSentences() {
    }

    static void run(Book book) {
        book.sentence("Sailing, nights", "When a night ends, the log gets a line", NightSentences::oneLineANight);
        book.sentence("Sailing, nights", "the number of the night (0 for the first one)", NightSentences::numbersOfNights);
        book.sentence("Sailing, nights", "the latitude, what the raft believes", NightSentences::latitudeAndBelief);
        book.sentence("Sailing, nights", "how many were too far off in the medians of that night, all together",
            NightSentences::tooFarOfThatNight);
        book.sentence("Sailing, nights", "the latest 8 lines are kept.", NightSentences::latestEight);
        book.sentence("Sailing, nights", "All estimates are gone", NightSentences::estimatesAreGone);
        book.sentence("Sailing, nights", "and those who sulk are awake again, with the anger 0", NightSentences::sulkersAreAwake);
        book.sentence("Sailing, nights", "(the anger of others stays)", NightSentences::angerStays);
        book.sentence("Promise 11", "A night ends. This is a change.", NightSentences::nightIsAChange);
        book.sentence("Promise 11", "Returns the number of the next one", NightSentences::nextNight);
        book.sentence("Promise 11", "NOT_POSSIBLE if that would be above 999", NightSentences::lastNight);
        book.sentence("Promise 14", "Returns something of the log.", NightSentences::asksTheLog);
        book.sentence("Promise 14", "`rank`: 0 for the latest line", NightSentences::ranks);
        book.sentence("Promise 14", "`what`: 0 the night", NightSentences::toldNights);
        book.sentence("Promise 14", "1 the latitude and 5400", NightSentences::toldLatitudes);
        book.sentence("Promise 14", "2 what the raft believed and 5400 (NONE if nothing)", NightSentences::toldBeliefs);
        book.sentence("Promise 14", "3 how many were too far off", NightSentences::tooFarOfThatNight);
        book.sentence("Promise 14", "NO_SUCH if there are not so many lines", NightSentences::noSuchLine);
        book.sentence("Promise 14", "BAD_VALUE if what is out of range", NightSentences::noSuchFact);
    }

    private static void dueLine(LampLatitudes x, int rank, int... facts) {
        for (int what = 0; what < facts.length; what++) {
            Due.due("log(" + rank + ", " + what + ")", x.log(rank, what), facts[what]);
        }
    }

    private static void oneLineANight() {
        LampLatitudes x = new LampLatitudes();
        x.sail(9);
        Due.due("log(0, 0), no night has ended", x.log(0, 0), LampLatitudes.NO_SUCH);
        for (int night = 0; night < 8; night++) {
            x.night();
            Due.due("the first line after night " + night, x.log(night, 0), 0);
            Due.due("one line more after night " + night, x.log(night + 1, 0), LampLatitudes.NO_SUCH);
        }
    }

    private static void numbersOfNights() {
        LampLatitudes x = new LampLatitudes();
        Due.due("count(4)", x.count(4), 0);
        x.night();
        dueLine(x, 0, 0);
        x.night();
        dueLine(x, 0, 1);
        dueLine(x, 1, 0);
    }

    private static void latitudeAndBelief() {
        LampLatitudes x = Rafts.estimating(50, 60, 70);
        x.set(LampLatitudes.DRIFT, 0);
        x.night();
        dueLine(x, 0, 0, 5400, LampLatitudes.NONE);
        Rafts.estimate(x, 50, 60, 70);
        x.agree();
        x.sail(1);
        x.night();
        dueLine(x, 0, 1, 5394, 5454);
        dueLine(x, 1, 0, 5400, LampLatitudes.NONE);
        x.sail(1);
        dueLine(x, 0, 1, 5394, 5454);
        x.night();
        dueLine(x, 0, 2, 5388, 5448);
    }

    private static void tooFarOfThatNight() {
        LampLatitudes x = new LampLatitudes();
        x.set(LampLatitudes.QUARREL, 1);
        x.night();
        Due.due("log(0, 3), no median", x.log(0, 3), 0);
        Rafts.estimate(x, 0, 0, 0, 5, -5);
        x.agree();
        Rafts.estimate(x, 0, 0, 0, 5, NO, 6);
        x.agree();
        Due.due("count(7), of two medians", x.count(7), 4);
        Due.due("log(0, 3), of the night before", x.log(0, 3), 0);
        x.night();
        Due.due("log(0, 3), of two medians", x.log(0, 3), 4);
        Due.due("count(7), of a new night", x.count(7), 0);
        Rafts.estimate(x, 0, 0, NO, NO, NO, NO, 6);
        x.agree();
        x.night();
        Due.due("log(0, 3), of one median", x.log(0, 3), 1);
        Due.due("log(1, 3), of two medians", x.log(1, 3), 4);
        x.night();
        Due.due("log(0, 3), no median", x.log(0, 3), 0);
    }

    private static void latestEight() {
        LampLatitudes x = new LampLatitudes();
        for (int night = 0; night < 19; night++) {
            x.sail(1);
            x.night();
            Due.due("log(8, 0), never a ninth line", x.log(8, 0), LampLatitudes.NO_SUCH);
            Due.due("the oldest line", x.log(Math.min(night, 7), 0), Math.max(0, night - 7));
        }
        for (int rank = 0; rank < 8; rank++) {
            dueLine(x, rank, 18 - rank, 5400 + 4 * (19 - rank), LampLatitudes.NONE, 0);
        }
        x.undo();
        for (int rank = 0; rank < 8; rank++) {
            dueLine(x, rank, 17 - rank, 5400 + 4 * (18 - rank), LampLatitudes.NONE, 0);
        }
        Due.due("log(8, 0), after undo()", x.log(8, 0), LampLatitudes.NO_SUCH);
    }

    private static void estimatesAreGone() {
        LampLatitudes x = Rafts.estimating(0, 1, 2, 3, 4, 5, 6);
        x.sleep(6);
        x.night();
        for (int navigator = 0; navigator < 7; navigator++) {
            Due.due("of(" + navigator + ", 5)", x.of(navigator, 5), LampLatitudes.NONE);
        }
        Due.due("count(8)", x.count(8), 0);
        Due.due("agree()", x.agree(), LampLatitudes.NOT_POSSIBLE);
        Due.due("of(6, 6), asleep still", x.of(6, 6), 1);
    }

    private static void sulkersAreAwake() {
        for (int navigator = 0; navigator < 7; navigator++) {
            LampLatitudes x = new LampLatitudes();
            Rafts.anger(x, navigator, 3);
            x.night();
            Due.due("of(" + navigator + ", 6)", x.of(navigator, 6), 0);
            Due.due("of(" + navigator + ", 3)", x.of(navigator, 3), 0);
            Due.due("count(9)", x.count(9), 0);
            Rafts.anger(x, navigator, 2);
            Due.due("of(" + navigator + ", 6), angry again", x.of(navigator, 6), 0);
        }
    }

    private static void angerStays() {
        LampLatitudes x = new LampLatitudes();
        Rafts.anger(x, 0, 3);
        Rafts.anger(x, 1, 2);
        Rafts.anger(x, 4, 1);
        x.sleep(4);
        x.night();
        int[] angers = {0, 2, 0, 0, 1, 0, 0};
        for (int navigator = 0; navigator < 7; navigator++) {
            Due.due("of(" + navigator + ", 3)", x.of(navigator, 3), angers[navigator]);
        }
        Due.due("of(4, 6), asleep still", x.of(4, 6), 1);
        Rafts.estimate(x, 0, 50, 0);
        x.agree();
        Due.due("of(1, 6), angry for the third time", x.of(1, 6), 2);
    }

    private static void nightIsAChange() {
        Rafts.dueOneChange("night()", LampLatitudes::night);
        LampLatitudes x = new LampLatitudes();
        x.night();
        Due.due("undo()", x.undo(), 0);
        Due.due("count(4)", x.count(4), 0);
        Due.due("log(0, 0)", x.log(0, 0), LampLatitudes.NO_SUCH);
        allElseStays();
    }

    /** A night ends nothing but what the document tells: the stars and the course stay, and who is asleep. */
    private static void allElseStays() {
        LampLatitudes x = Rafts.believing(60);
        x.star(-7);
        x.cloud(0);
        x.sleep(2);
        x.sail(3);
        int[] unchanged = {0, 1, 2, 3, 5, 6, 10, 11, 12, 13, 14};
        int[] before = new int[15];
        for (int what : unchanged) {
            before[what] = x.count(what);
        }
        x.night();
        for (int what : unchanged) {
            Due.due("count(" + what + ") after a night", x.count(what), before[what]);
        }
        Due.due("ofStar(0, 1) after a night", x.ofStar(0, 1), 1);
        Due.due("ofStar(1, 0) after a night", x.ofStar(1, 0), 5393);
        Due.due("of(2, 6) after a night", x.of(2, 6), 1);
        Due.due("of(0, 0) after a night", x.of(0, 0), 9);
        Due.due("of(0, 4) after a night", x.of(0, 4), 1);
    }

    private static void nextNight() {
        LampLatitudes x = new LampLatitudes();
        for (int night = 1; night <= 20; night++) {
            Due.due("night()", x.night(), night);
            Due.due("count(4)", x.count(4), night);
        }
    }

    private static void lastNight() {
        LampLatitudes x = Rafts.withNights(998);
        Due.due("night(), up to 999", x.night(), 999);
        Due.due("night(), above 999", x.night(), LampLatitudes.NOT_POSSIBLE);
        Due.due("count(4)", x.count(4), 999);
        dueLine(x, 0, 998, 5400, LampLatitudes.NONE, 0);
        dueLine(x, 7, 991, 5400, LampLatitudes.NONE, 0);
        Due.due("carryOut(), above 999", Due.carryOut(x, "m;n"), 0);
        Due.due("carryOut(), above 999", Due.carryOut(x, "z0;n"), 1);
        x.undo();
        x.undo();
        x.undo();
        Due.due("night() after undo()", x.night(), 999);
    }

    private static void asksTheLog() {
        LampLatitudes x = Rafts.believing(7);
        x.goal(7);
        x.set(LampLatitudes.DRIFT, -2);
        for (int night = 0; night < 3; night++) {
            x.sail(night + 1);
            x.night();
        }
        dueLine(x, 0, 2, 5388, 5407, 0);
        dueLine(x, 1, 1, 5394, 5407, 0);
        dueLine(x, 2, 0, 5398, 5407, 0);
    }

    private static void ranks() {
        LampLatitudes x = new LampLatitudes();
        for (int nights = 1; nights <= 10; nights++) {
            x.night();
            for (int rank = 0; rank < Math.min(8, nights); rank++) {
                Due.due("log(" + rank + ", 0) after " + nights, x.log(rank, 0), nights - 1 - rank);
            }
        }
    }

    private static void toldNights() {
        LampLatitudes x = Rafts.withNights(100);
        for (int rank = 0; rank < 8; rank++) {
            Due.due("log(" + rank + ", 0)", x.log(rank, 0), 99 - rank);
        }
    }

    private static void toldLatitudes() {
        for (int latitude : new int[] {-5400, -1, 0, 1, 5400}) {
            LampLatitudes x = Rafts.at(latitude);
            x.night();
            Due.due("log(0, 1)", x.log(0, 1), latitude + 5400);
        }
    }

    private static void toldBeliefs() {
        LampLatitudes x = new LampLatitudes();
        x.night();
        Due.due("log(0, 2), nothing", x.log(0, 2), LampLatitudes.NONE);
        for (int belief : new int[] {-5400, -1, 0, 1, 5400}) {
            LampLatitudes believing = Rafts.believing(belief);
            believing.night();
            Due.due("log(0, 2)", believing.log(0, 2), belief + 5400);
            Due.due("count(1), believed still", believing.count(1), belief + 5400);
        }
    }

    private static void noSuchLine() {
        LampLatitudes x = new LampLatitudes();
        for (int nights = 0; nights <= 9; nights++) {
            int lines = Math.min(8, nights);
            for (int rank : new int[] {-1, lines, lines + 1, -8, Integer.MIN_VALUE, Integer.MAX_VALUE}) {
                Due.due("log(" + rank + ", 0) of " + lines, x.log(rank, 0), LampLatitudes.NO_SUCH);
                Due.due("log(" + rank + ", 4) of " + lines, x.log(rank, 4), LampLatitudes.NO_SUCH);
            }
            if (lines > 0) {
                Due.due("log(" + (lines - 1) + ", 0), the oldest", x.log(lines - 1, 0), nights - lines);
            }
            x.night();
        }
    }

    private static void noSuchFact() {
        LampLatitudes x = Rafts.withNights(9);
        for (int what : new int[] {-1, 4, 5, 32, Integer.MIN_VALUE, Integer.MAX_VALUE}) {
            Due.due("log(0, " + what + ")", x.log(0, what), LampLatitudes.BAD_VALUE);
            Due.due("log(7, " + what + ")", x.log(7, what), LampLatitudes.BAD_VALUE);
        }
        Due.due("log(7, 3)", x.log(7, 3), 0);
    }
}

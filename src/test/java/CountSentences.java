/** The sentences about promise 15, count. */
final class CountSentences {
    private static final int NO = Rafts.NO_ESTIMATE;

    private CountSentences() {
    }

    static void run(Book book) {
        book.sentence("Promise 15", "`what`: 0 the latitude and 5400", CountSentences::latitude);
        book.sentence("Promise 15", "1 what the raft believes and 5400 (NONE)", CountSentences::belief);
        book.sentence("Promise 15", "2 the goal and 5400", CountSentences::goal);
        book.sentence("Promise 15", "3 hours so far", CountSentences::hours);
        book.sentence("Promise 15", "4 the night", CountSentences::night);
        book.sentence("Promise 15", "5 sights so far", CountSentences::sights);
        book.sentence("Promise 15", "6 medians so far", CountSentences::medians);
        book.sentence("Promise 15", "7 those who were too far off in this night so far, how many", CountSentences::tooFar);
        book.sentence("Promise 15", "8 navigators with an estimate, 9 those who sulk, as sets", CountSentences::sets);
        book.sentence("Promise 15", "10 by how much the raft is mistaken: how far what it believes is from its latitude (NONE)",
            CountSentences::mistake);
        book.sentence("Promise 15", "11 to 14 the settings (DRIFT and 30)", CountSentences::settings);
        book.sentence("Promise 15", "15 the length of the pad", CountSentences::pad);
        book.sentence("Promise 15", "16 how many changes can be undone", CountSentences::changes);
        book.sentence("Promise 15", "BAD_VALUE if what is out of range", CountSentences::noSuchNumber);
    }

    private static void latitude() {
        for (int latitude : new int[] {-5400, -5399, -1, 0, 1, 5399, 5400}) {
            Due.due("count(0)", Rafts.at(latitude).count(0), latitude + 5400);
        }
    }

    private static void belief() {
        Due.due("count(1), nothing", new LampLatitudes().count(1), LampLatitudes.NONE);
        for (int belief : new int[] {-5400, -1, 0, 1, 5400}) {
            Due.due("count(1)", Rafts.believing(belief).count(1), belief + 5400);
        }
    }

    private static void goal() {
        LampLatitudes x = new LampLatitudes();
        Due.due("count(2), at first", x.count(2), 5400);
        for (int goal : new int[] {-5400, -1, 0, 1, 5400}) {
            x.goal(goal);
            Due.due("count(2)", x.count(2), goal + 5400);
        }
    }

    private static void hours() {
        for (int hours : new int[] {0, 1, 99, 100, 9998, 9999}) {
            Due.due("count(3)", Rafts.withHours(hours).count(3), hours);
        }
    }

    private static void night() {
        LampLatitudes x = Rafts.withNights(40);
        Due.due("count(4), at first", new LampLatitudes().count(4), 0);
        Due.due("count(4)", x.count(4), 40);
        x.night();
        Due.due("count(4)", x.count(4), 41);
    }

    private static void sights() {
        LampLatitudes x = Rafts.withStars(0);
        Due.due("count(5), at first", x.count(5), 0);
        for (int sight = 0; sight < 21; sight++) {
            x.sight(sight % 7, 0);
            Due.due("count(5)", x.count(5), sight + 1);
        }
        x.night();
        Due.due("count(5), after a night", x.count(5), 21);
    }

    private static void medians() {
        LampLatitudes x = new LampLatitudes();
        x.agree();
        Due.due("count(6), at first", x.count(6), 0);
        for (int median = 1; median <= 3; median++) {
            Rafts.estimate(x, 0, 0, 0);
            x.median(LampLatitudes.NONE);
            x.agree();
            Due.due("count(6)", x.count(6), median);
        }
        x.agree();
        x.night();
        Due.due("count(6), after a night", x.count(6), 3);
    }

    private static void tooFar() {
        LampLatitudes x = new LampLatitudes();
        Due.due("count(7), at first", x.count(7), 0);
        Rafts.estimate(x, 0, 0, 0, 0, 61, -61, 60);
        x.agree();
        Due.due("count(7)", x.count(7), 2);
        Rafts.estimate(x, 0, 0, 61);
        x.agree();
        Due.due("count(7), of two medians", x.count(7), 3);
        Rafts.estimate(x, 0, 0, 0);
        x.agree();
        Due.due("count(7), nobody was calm enough to change it", x.count(7), 3);
        x.night();
        Due.due("count(7), in the next night", x.count(7), 0);
    }

    private static void sets() {
        LampLatitudes x = new LampLatitudes();
        Due.due("count(8), at first", x.count(8), 0);
        Due.due("count(9), at first", x.count(9), 0);
        Rafts.anger(x, 6, 3);
        Rafts.anger(x, 0, 3);
        Due.due("count(9), the first and the last", x.count(9), 65);
        Rafts.estimate(x, NO, 1, NO, 1, NO, 1);
        x.sleep(5);
        Due.due("count(8), one of them asleep", x.count(8), 42);
        x.sleep(4);
        Due.due("count(9), those who sleep do not sulk", x.count(9), 65);
        x.night();
        Due.due("count(8), after a night", x.count(8), 0);
        Due.due("count(9), after a night", x.count(9), 0);
        Due.due("count(8), all", Rafts.estimating(0, 0, 0, 0, 0, 0, 0).count(8), 127);
    }

    private static void mistake() {
        LampLatitudes x = new LampLatitudes();
        x.sail(1);
        Due.due("count(10), nothing believed", x.count(10), LampLatitudes.NONE);
        for (int belief : new int[] {-5400, -1, 0, 1, 5400}) {
            Due.due("count(10)", Rafts.believing(belief).count(10), Math.max(belief, -belief));
        }
        LampLatitudes far = Rafts.believing(-5400);
        far.set(LampLatitudes.PULL, 0);
        Rafts.bring(far, 5400);
        Due.due("count(10), from pole to pole", far.count(10), 10800);
    }

    private static void settings() {
        LampLatitudes x = new LampLatitudes();
        int[] first = {34, 6, 60, 300};
        int[] least = {0, 0, 1, 0};
        int[] most = {60, 30, 999, 1800};
        for (int setting = 0; setting < 4; setting++) {
            Due.due("count(" + (11 + setting) + "), at first", x.count(11 + setting), first[setting]);
            x.set(setting, least[setting] - (setting == 0 ? 30 : 0));
            Due.due("count(" + (11 + setting) + "), the least", x.count(11 + setting), least[setting]);
            x.set(setting, most[setting] - (setting == 0 ? 30 : 0));
            Due.due("count(" + (11 + setting) + "), the most", x.count(11 + setting), most[setting]);
        }
    }

    private static void pad() {
        LampLatitudes x = new LampLatitudes();
        Due.due("count(15), empty", x.count(15), 0);
        for (int length = 1; length <= 80; length++) {
            x.put('~');
            Due.due("count(15)", x.count(15), length);
        }
        x.put('~');
        Due.due("count(15), full", x.count(15), 80);
        x.night();
        x.undo();
        Due.due("count(15), not undone", x.count(15), 80);
        x.wipe();
        Due.due("count(15), wiped", x.count(15), 0);
    }

    private static void changes() {
        LampLatitudes x = new LampLatitudes();
        Due.due("count(16), at first", x.count(16), 0);
        for (int change = 1; change <= 9; change++) {
            x.goal(change);
            Due.due("count(16)", x.count(16), Math.min(6, change));
        }
        for (int left = 5; left >= 0; left--) {
            x.undo();
            Due.due("count(16), undone", x.count(16), left);
        }
        x.undo();
        Due.due("count(16), nothing left", x.count(16), 0);
    }

    private static void noSuchNumber() {
        LampLatitudes x = new LampLatitudes();
        for (int what : new int[] {-1, 17, 18, -6, Integer.MIN_VALUE, Integer.MAX_VALUE}) {
            Due.due("count(" + what + ")", x.count(what), LampLatitudes.BAD_VALUE);
        }
        Due.due("count(0)", x.count(0), 5400);
        Due.due("count(16)", x.count(16), 0);
    }
}

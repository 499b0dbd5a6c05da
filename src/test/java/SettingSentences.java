/** The sentences about settings: their ranges and what they do at the ends of these, and promise 2. */
final class SettingSentences {
    private static final int[] LEAST = {-30, 0, 1, 0};
    private static final int[] MOST = {30, 30, 999, 1800};
    private static final int[] FIRST = {4, 6, 60, 300};

    private SettingSentences() {
    }

    static void run(Book book) {
        book.sentence("Settings", "DRIFT (-30 to 30; 4): by how much the raft drifts in an hour", SettingSentences::drift);
        book.sentence("Settings", "PULL (0 to 30; 6): by how much it can be steered in an hour", SettingSentences::pull);
        book.sentence("Settings", "QUARREL (1 to 999; 60): how far from the median an estimate may be",
            SettingSentences::quarrel);
        book.sentence("Settings", "LOW (0 to 1800; 300): the least height of a star that can be sighted", SettingSentences::low);
        book.sentence("Promise 2", "Changes a setting. This is a change.", SettingSentences::oneSetting);
        book.sentence("Promise 2", "Returns the previous value and 30", SettingSentences::previous);
        book.sentence("Promise 2", "BAD_VALUE if there is no such setting", SettingSentences::noSuchSetting);
        book.sentence("Promise 2", "or the value is out of its range", SettingSentences::outOfRange);
    }

    private static int told(int setting, int value) {
        return setting == LampLatitudes.DRIFT ? value + 30 : value;
    }

    /** The first value, the least and the most that are allowed, and the first ones that are not. */
    private static void range(int setting) {
        LampLatitudes x = new LampLatitudes();
        String name = "setting " + setting;
        Due.due(name + " at first", x.count(11 + setting), told(setting, FIRST[setting]));
        Due.due(name + ", the least", x.set(setting, LEAST[setting]), FIRST[setting] + 30);
        Due.due(name + ", less than the least", x.set(setting, LEAST[setting] - 1), LampLatitudes.BAD_VALUE);
        Due.due(name + " is the least", x.count(11 + setting), told(setting, LEAST[setting]));
        Due.due(name + ", the most", x.set(setting, MOST[setting]), LEAST[setting] + 30);
        Due.due(name + ", more than the most", x.set(setting, MOST[setting] + 1), LampLatitudes.BAD_VALUE);
        Due.due(name + " is the most", x.count(11 + setting), told(setting, MOST[setting]));
    }

    private static void drift() {
        range(LampLatitudes.DRIFT);
        Due.due("sail(1), at first", new LampLatitudes().sail(1), 5404);
        for (int drift : new int[] {-30, -29, -1, 0, 1, 29, 30}) {
            LampLatitudes x = new LampLatitudes();
            x.set(LampLatitudes.DRIFT, drift);
            Due.due("sail(1) with " + drift, x.sail(1), 5400 + drift);
            Due.due("sail(2) with " + drift, x.sail(2), 5400 + 3 * drift);
        }
    }

    private static void pull() {
        range(LampLatitudes.PULL);
        LampLatitudes first = Rafts.believing(0);
        first.goal(700);
        Due.due("sail(1), at first", first.sail(1), 5406);
        for (int pull : new int[] {0, 1, 29, 30}) {
            LampLatitudes x = Rafts.believing(0);
            x.set(LampLatitudes.PULL, pull);
            x.goal(700);
            Due.due("sail(1) with " + pull, x.sail(1), 5400 + pull);
            x.goal(-700);
            Due.due("sail(2) with " + pull, x.sail(2), 5400 - pull);
        }
    }

    private static void quarrel() {
        range(LampLatitudes.QUARREL);
        dueTooFar(60, 60, 0);
        dueTooFar(60, 61, 1);
        dueTooFar(1, 1, 0);
        dueTooFar(1, 2, 1);
        dueTooFar(999, 999, 0);
        dueTooFar(999, 1000, 1);
    }

    private static void dueTooFar(int quarrel, int away, int tooFar) {
        LampLatitudes x = Rafts.estimating(0, 0, 0, away);
        if (quarrel != FIRST[LampLatitudes.QUARREL]) {
            x.set(LampLatitudes.QUARREL, quarrel);
        }
        Due.due("agree()", x.agree(), 5400);
        Due.due("count(7) with " + quarrel + " and one " + away + " away", x.count(7), tooFar);
    }

    private static void low() {
        range(LampLatitudes.LOW);
        dueLow(300, 300, 0);
        dueLow(300, 299, 4);
        dueLow(1800, 1800, 0);
        dueLow(1800, 1799, 4);
        dueLow(0, 0, 0);
        LampLatitudes x = Rafts.at(-1);
        x.star(5400);
        x.star(5399);
        x.set(LampLatitudes.LOW, 0);
        Due.due("why(0, 0), with the height -1", x.why(0, 0), 4);
        Due.due("why(0, 1), with the height 0", x.why(0, 1), 0);
    }

    private static void dueLow(int low, int height, int reason) {
        LampLatitudes x = Rafts.withStars(5400 - height, height - 5400);
        if (low != FIRST[LampLatitudes.LOW]) {
            x.set(LampLatitudes.LOW, low);
        }
        String told = " with the height " + height + " and LOW " + low;
        Due.due("why(0, 0)" + told, x.why(0, 0), reason);
        Due.due("why(6, 1)" + told, x.why(6, 1), reason);
        Due.due("sight(0, 0)" + told, x.sight(0, 0) >= 0 ? 0 : 4, reason);
        Due.due("bestStar()" + told, x.bestStar(), reason == 0 ? 0 : LampLatitudes.NONE);
    }

    private static void oneSetting() {
        for (int setting = 0; setting < 4; setting++) {
            int changed = setting;
            Rafts.dueOneChange("set(" + changed + ", 2)", x -> x.set(changed, 2));
            LampLatitudes x = new LampLatitudes();
            x.set(changed, 2);
            for (int other = 0; other < 4; other++) {
                int value = other == changed ? 2 : FIRST[other];
                Due.due("count(" + (11 + other) + ") after set(" + changed + ", 2)", x.count(11 + other), told(other, value));
            }
        }
    }

    private static void previous() {
        for (int setting = 0; setting < 4; setting++) {
            LampLatitudes x = new LampLatitudes();
            int[] values = {LEAST[setting], MOST[setting], MOST[setting], 5, LEAST[setting]};
            int before = FIRST[setting];
            for (int value : values) {
                Due.due("set(" + setting + ", " + value + ")", x.set(setting, value), before + 30);
                before = value;
            }
        }
    }

    /** The value 1 is within the range of each setting that there is. */
    private static void noSuchSetting() {
        LampLatitudes x = new LampLatitudes();
        for (int setting : new int[] {-1, 4, 5, 11, Integer.MIN_VALUE, Integer.MAX_VALUE}) {
            Due.due("set(" + setting + ", 1)", x.set(setting, 1), LampLatitudes.BAD_VALUE);
        }
        for (int setting = 0; setting < 4; setting++) {
            Due.due("set(" + setting + ", 1)", x.set(setting, 1), FIRST[setting] + 30);
        }
    }

    private static void outOfRange() {
        for (int setting = 0; setting < 4; setting++) {
            LampLatitudes x = new LampLatitudes();
            for (int value : new int[] {Integer.MIN_VALUE, -31, LEAST[setting] - 1, MOST[setting] + 1, 1801, Integer.MAX_VALUE}) {
                Due.due("set(" + setting + ", " + value + ")", x.set(setting, value), LampLatitudes.BAD_VALUE);
                Due.due("count(" + (11 + setting) + ")", x.count(11 + setting), told(setting, FIRST[setting]));
            }
            Due.due("count(16)", x.count(16), 0);
        }
    }
}

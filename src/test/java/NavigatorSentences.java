/** The sentences about navigators: the term, and the promises 5, 6 and 12. */
final class NavigatorSentences {
    private static final int[] LEAST = {0, -60, 0};
    private static final int[] MOST = {9, 60, 1};
    private static final int[] FIRST = {5, 0, 1};
    private static final int[] NO_NAVIGATORS = {-1, 7, 8, -6, 31, 32, Integer.MIN_VALUE, Integer.MAX_VALUE};

    private NavigatorSentences() {
    }

    static void run(Book book) {
        book.sentence("Stars, navigators", "There are 7 navigators, 0 to 6", NavigatorSentences::sevenNavigators);
        book.sentence("Stars, navigators", "each with a skill (0 to 9; 5 at first)", NavigatorSentences::skills);
        book.sentence("Stars, navigators", "a bias (-60 to 60; 0 at first)", NavigatorSentences::biases);
        book.sentence("Stars, navigators", "a side (1 north, 0 south; 1 at first)", NavigatorSentences::sides);
        book.sentence("Stars, navigators", "anger (0 at first), sights so far, and an estimate, or none (at first)",
            NavigatorSentences::firstFacts);
        book.sentence("Stars, navigators", "A navigator is awake (at first), asleep, or sulks", NavigatorSentences::hows);
        book.sentence("Promise 5", "Changes a navigator. This is a change.", NavigatorSentences::oneNavigator);
        book.sentence("Promise 5", "`what`: 0 the skill, 1 the bias, 2 the side", NavigatorSentences::traits);
        book.sentence("Promise 5", "Returns the previous value and 60", NavigatorSentences::previous);
        book.sentence("Promise 5", "NO_SUCH if there is no such navigator", NavigatorSentences::changesNobody);
        book.sentence("Promise 5", "BAD_VALUE if what or value is out of range", NavigatorSentences::wrongTraits);
        book.sentence("Promise 6", "A navigator falls asleep, or wakes up, if asleep. This is a change.",
            NavigatorSentences::sleepIsAChange);
        book.sentence("Promise 6", "Returns 1 if asleep then, otherwise 0", NavigatorSentences::asleepAndAwake);
        book.sentence("Promise 6", "NO_SUCH if there is no such navigator", NavigatorSentences::nobodySleeps);
        book.sentence("Promise 6", "NOT_POSSIBLE if the navigator sulks", NavigatorSentences::noSleepForSulkers);
        book.sentence("Promise 12", "Returns something about a navigator.", NavigatorSentences::asksOneNavigator);
        book.sentence("Promise 12", "`what`: 0 the skill, 1 the bias and 60, 2 the side", NavigatorSentences::toldTraits);
        book.sentence("Promise 12", "3 the anger", NavigatorSentences::toldAnger);
        book.sentence("Promise 12", "4 sights so far", NavigatorSentences::toldSights);
        book.sentence("Promise 12", "5 the estimate and 5400 (NONE)", NavigatorSentences::toldEstimates);
        book.sentence("Promise 12", "6 how: 0 awake, 1 asleep, 2 sulks", NavigatorSentences::toldHow);
        book.sentence("Promise 12", "7 the error of the next sight and 999", NavigatorSentences::toldErrors);
        book.sentence("Promise 12", "NO_SUCH if there is no such navigator", NavigatorSentences::asksNobody);
        book.sentence("Promise 12", "BAD_VALUE if what is out of range", NavigatorSentences::noSuchFact);
    }

    private static void sevenNavigators() {
        LampLatitudes x = Rafts.withStars(0);
        for (int navigator = 0; navigator < 7; navigator++) {
            Due.due("of(" + navigator + ", 6)", x.of(navigator, 6), 0);
            Due.due("why(" + navigator + ", 0)", x.why(navigator, 0), 0);
        }
        Due.due("of(7, 6)", x.of(7, 6), LampLatitudes.NO_SUCH);
        Due.due("of(-1, 6)", x.of(-1, 6), LampLatitudes.NO_SUCH);
        Due.due("why(7, 0)", x.why(7, 0), LampLatitudes.NO_SUCH);
        Due.due("why(-1, 0)", x.why(-1, 0), LampLatitudes.NO_SUCH);
        Due.due("ofStar(0, 3)", x.ofStar(0, 3), 127);
    }

    /** Of each navigator: the first value, the least and the most that are allowed, and the first ones that are not. */
    private static void range(int what, int offset) {
        LampLatitudes x = new LampLatitudes();
        for (int navigator = 0; navigator < 7; navigator++) {
            String name = "what " + what + " of " + navigator;
            Due.due(name + " at first", x.of(navigator, what), FIRST[what] + offset);
            Due.due(name + ", the least", x.navigator(navigator, what, LEAST[what]), FIRST[what] + 60);
            Due.due(name + ", less", x.navigator(navigator, what, LEAST[what] - 1), LampLatitudes.BAD_VALUE);
            Due.due(name + " is the least", x.of(navigator, what), LEAST[what] + offset);
            Due.due(name + ", the most", x.navigator(navigator, what, MOST[what]), LEAST[what] + 60);
            Due.due(name + ", more", x.navigator(navigator, what, MOST[what] + 1), LampLatitudes.BAD_VALUE);
            Due.due(name + " is the most", x.of(navigator, what), MOST[what] + offset);
        }
    }

    private static void skills() {
        range(0, 0);
        LampLatitudes x = new LampLatitudes();
        Due.due("of(0, 7), at first", x.of(0, 7), 999 - 4 * 5);
        x.navigator(0, 0, 9);
        Due.due("of(0, 7), the most skilled", x.of(0, 7), 999);
        x.navigator(0, 0, 0);
        Due.due("of(0, 7), the least skilled", x.of(0, 7), 999 - 9 * 5);
    }

    private static void biases() {
        range(1, 60);
        LampLatitudes x = Due.skilled();
        Due.due("of(0, 7), at first", x.of(0, 7), 999);
        x.navigator(0, 1, -60);
        Due.due("of(0, 7), with the least bias", x.of(0, 7), 939);
        x.navigator(0, 1, 60);
        Due.due("of(0, 7), with the most bias", x.of(0, 7), 1059);
    }

    private static void sides() {
        range(2, 0);
        LampLatitudes x = Due.skilled();
        x.star(-100);
        Due.due("ifSighted(0, 1), at first", x.ifSighted(0, 1), 5400);
        x.navigator(0, 2, 0);
        Due.due("ifSighted(0, 1), south", x.ifSighted(0, 1), 5200);
        x.navigator(0, 2, 1);
        Due.due("ifSighted(0, 1), north", x.ifSighted(0, 1), 5400);
    }

    private static void firstFacts() {
        LampLatitudes x = new LampLatitudes();
        for (int navigator = 0; navigator < 7; navigator++) {
            Due.due("of(" + navigator + ", 3)", x.of(navigator, 3), 0);
            Due.due("of(" + navigator + ", 4)", x.of(navigator, 4), 0);
            Due.due("of(" + navigator + ", 5)", x.of(navigator, 5), LampLatitudes.NONE);
        }
        Due.due("count(5)", x.count(5), 0);
        Due.due("count(8)", x.count(8), 0);
        Due.due("nearest(0)", x.nearest(0), LampLatitudes.NONE);
    }

    private static void hows() {
        LampLatitudes x = Rafts.withStars(0);
        Due.due("of(2, 6), at first", x.of(2, 6), 0);
        Due.due("why(2, 0), at first", x.why(2, 0), 0);
        x.sleep(2);
        Due.due("of(2, 6), asleep", x.of(2, 6), 1);
        x.sleep(2);
        Due.due("of(2, 6), awake again", x.of(2, 6), 0);
        Rafts.anger(x, 2, 3);
        Due.due("of(2, 6), sulking", x.of(2, 6), 2);
    }

    private static void oneNavigator() {
        for (int what = 0; what < 3; what++) {
            int trait = what;
            Rafts.dueOneChange("navigator(3, " + trait + ", 0)", x -> x.navigator(3, trait, 0));
            LampLatitudes x = new LampLatitudes();
            x.navigator(3, trait, MOST[trait] - 1);
            for (int navigator = 0; navigator < 7; navigator++) {
                for (int other = 0; other < 3; other++) {
                    int value = navigator == 3 && other == trait ? MOST[trait] - 1 : FIRST[other];
                    Due.due("of(" + navigator + ", " + other + ")", x.of(navigator, other), value + (other == 1 ? 60 : 0));
                }
            }
        }
    }

    private static void traits() {
        LampLatitudes x = new LampLatitudes();
        Due.due("navigator(6, 0, 9)", x.navigator(6, 0, 9), 65);
        Due.due("of(6, 0)", x.of(6, 0), 9);
        Due.due("navigator(6, 1, 9)", x.navigator(6, 1, 9), 60);
        Due.due("of(6, 1)", x.of(6, 1), 69);
        Due.due("navigator(6, 2, 0)", x.navigator(6, 2, 0), 61);
        Due.due("of(6, 2)", x.of(6, 2), 0);
    }

    private static void previous() {
        for (int what = 0; what < 3; what++) {
            LampLatitudes x = new LampLatitudes();
            int before = FIRST[what];
            for (int value : new int[] {LEAST[what], LEAST[what], MOST[what], MOST[what], LEAST[what]}) {
                Due.due("navigator(5, " + what + ", " + value + ")", x.navigator(5, what, value), before + 60);
                before = value;
            }
        }
    }

    private static void changesNobody() {
        LampLatitudes x = new LampLatitudes();
        for (int navigator : NO_NAVIGATORS) {
            for (int what : new int[] {-1, 0, 1, 2, 3}) {
                Due.due("navigator(" + navigator + ", " + what + ", 0)", x.navigator(navigator, what, 0), LampLatitudes.NO_SUCH);
                Due.due("navigator(" + navigator + ", " + what + ", 61)", x.navigator(navigator, what, 61), LampLatitudes.NO_SUCH);
            }
        }
        Due.due("navigator(0, 0, 0)", x.navigator(0, 0, 0), 65);
        Due.due("navigator(6, 0, 0)", x.navigator(6, 0, 0), 65);
    }

    private static void wrongTraits() {
        LampLatitudes x = new LampLatitudes();
        for (int what : new int[] {-1, 3, 4, Integer.MIN_VALUE, Integer.MAX_VALUE}) {
            Due.due("navigator(0, " + what + ", 1)", x.navigator(0, what, 1), LampLatitudes.BAD_VALUE);
        }
        for (int what = 0; what < 3; what++) {
            for (int value : new int[] {LEAST[what] - 1, MOST[what] + 1, -61, 61, Integer.MIN_VALUE, Integer.MAX_VALUE}) {
                Due.due("navigator(0, " + what + ", " + value + ")", x.navigator(0, what, value), LampLatitudes.BAD_VALUE);
            }
            Due.due("of(0, " + what + ")", x.of(0, what), FIRST[what] + (what == 1 ? 60 : 0));
        }
        Due.due("count(16)", x.count(16), 0);
    }

    private static void sleepIsAChange() {
        Rafts.dueOneChange("sleep(0)", x -> x.sleep(0));
        Rafts.dueOneChange("sleep(6), who is angry", x -> x.sleep(6));
        LampLatitudes x = new LampLatitudes();
        x.sleep(0);
        Due.due("sleep(0), to wake up", x.sleep(0), 0);
        Due.due("count(16)", x.count(16), 2);
        Due.due("undo()", x.undo(), 1);
        Due.due("of(0, 6)", x.of(0, 6), 1);
    }

    private static void asleepAndAwake() {
        LampLatitudes x = new LampLatitudes();
        for (int navigator = 0; navigator < 7; navigator++) {
            Due.due("sleep(" + navigator + ")", x.sleep(navigator), 1);
            Due.due("sleep(" + navigator + ")", x.sleep(navigator), 0);
            Due.due("sleep(" + navigator + ")", x.sleep(navigator), 1);
            for (int other = 0; other < 7; other++) {
                Due.due("of(" + other + ", 6)", x.of(other, 6), other <= navigator ? 1 : 0);
            }
        }
    }

    private static void nobodySleeps() {
        LampLatitudes x = new LampLatitudes();
        for (int navigator : NO_NAVIGATORS) {
            Due.due("sleep(" + navigator + ")", x.sleep(navigator), LampLatitudes.NO_SUCH);
        }
        Due.due("count(16)", x.count(16), 0);
        Due.due("sleep(0)", x.sleep(0), 1);
        Due.due("sleep(6)", x.sleep(6), 1);
    }

    private static void noSleepForSulkers() {
        LampLatitudes x = new LampLatitudes();
        Rafts.anger(x, 6, 2);
        Due.due("sleep(6), with the anger 2", x.sleep(6), 1);
        Due.due("sleep(6), with the anger 2", x.sleep(6), 0);
        Due.due("of(6, 3)", x.of(6, 3), 2);
        x = new LampLatitudes();
        Rafts.anger(x, 6, 3);
        Due.due("sleep(6), sulking", x.sleep(6), LampLatitudes.NOT_POSSIBLE);
        Due.due("of(6, 6), sulking still", x.of(6, 6), 2);
        Due.due("sleep(5)", x.sleep(5), 1);
        x.night();
        Due.due("sleep(6), after a night", x.sleep(6), 1);
    }

    private static void asksOneNavigator() {
        LampLatitudes x = Rafts.withStars(0);
        x.navigator(2, 0, 3);
        x.navigator(2, 1, -11);
        x.sight(2, 0);
        x.sleep(2);
        long[] asked = {3, 49, 1, 0, 1, 5405, 1, 999 - 11 - 18};
        long[] other = {5, 60, 1, 0, 0, -6, 0, 999 + 4 * 4};
        for (int what = 0; what < 8; what++) {
            Due.due("of(2, " + what + ")", x.of(2, what), asked[what]);
            Due.due("of(3, " + what + ")", x.of(3, what), other[what]);
        }
    }

    private static void toldTraits() {
        LampLatitudes x = new LampLatitudes();
        for (int navigator = 0; navigator < 7; navigator++) {
            x.navigator(navigator, 0, navigator);
            x.navigator(navigator, 1, 20 * navigator - 60);
            x.navigator(navigator, 2, navigator % 2);
        }
        for (int navigator = 0; navigator < 7; navigator++) {
            Due.due("of(" + navigator + ", 0)", x.of(navigator, 0), navigator);
            Due.due("of(" + navigator + ", 1)", x.of(navigator, 1), 20 * navigator);
            Due.due("of(" + navigator + ", 2)", x.of(navigator, 2), navigator % 2);
        }
    }

    private static void toldAnger() {
        LampLatitudes x = new LampLatitudes();
        Due.due("of(4, 3)", x.of(4, 3), 0);
        for (int times = 1; times <= 3; times++) {
            LampLatitudes angry = new LampLatitudes();
            Rafts.anger(angry, 4, times);
            Due.due("of(4, 3), angry " + times + " times", angry.of(4, 3), times);
            Due.due("of(5, 3)", angry.of(5, 3), 0);
        }
    }

    private static void toldSights() {
        LampLatitudes x = Rafts.withStars(0, 5400);
        for (int sight = 0; sight < 13; sight++) {
            Due.due("of(6, 4)", x.of(6, 4), sight);
            x.sight(6, 1);
            x.ifSighted(6, 0);
            x.sight(6, 0);
        }
        Due.due("of(5, 4)", x.of(5, 4), 0);
        x.sleep(6);
        x.sight(6, 0);
        x.night();
        Due.due("of(6, 4), after a night", x.of(6, 4), 13);
    }

    private static void toldEstimates() {
        int[] wanted = {-5400, -5399, 0, 5399, 5400};
        LampLatitudes x = Rafts.estimating(wanted);
        for (int navigator = 0; navigator < 5; navigator++) {
            Due.due("of(" + navigator + ", 5)", x.of(navigator, 5), wanted[navigator] + 5400);
        }
        Due.due("of(5, 5), none", x.of(5, 5), LampLatitudes.NONE);
        x.agree();
        for (int navigator = 0; navigator < 7; navigator++) {
            Due.due("of(" + navigator + ", 5), after a median", x.of(navigator, 5), LampLatitudes.NONE);
        }
    }

    private static void toldHow() {
        LampLatitudes x = new LampLatitudes();
        Rafts.anger(x, 3, 3);
        x.sleep(0);
        x.sleep(6);
        int[] dues = {1, 0, 0, 2, 0, 0, 1};
        for (int navigator = 0; navigator < 7; navigator++) {
            Due.due("of(" + navigator + ", 6)", x.of(navigator, 6), dues[navigator]);
        }
    }

    private static void toldErrors() {
        LampLatitudes x = Rafts.withStars(0);
        long[] first = {979, 991, 1003, 1015, 983, 995, 1007};
        long[] second = {1007, 1019, 987, 999, 1011, 979, 991};
        for (int navigator = 0; navigator < 7; navigator++) {
            Due.due("of(" + navigator + ", 7)", x.of(navigator, 7), first[navigator]);
            x.sight(navigator, 0);
            Due.due("of(" + navigator + ", 7), after a sight", x.of(navigator, 7), second[navigator]);
        }
        LampLatitudes most = new LampLatitudes();
        most.navigator(3, 0, 0);
        most.navigator(3, 1, 60);
        Due.due("of(3, 7), +60 and 9 * 4", most.of(3, 7), 999 + 96);
        most.navigator(0, 0, 0);
        most.navigator(0, 1, -60);
        Due.due("of(0, 7), -60 and 9 * -5", most.of(0, 7), 999 - 105);
    }

    private static void asksNobody() {
        LampLatitudes x = new LampLatitudes();
        for (int navigator : NO_NAVIGATORS) {
            for (int what : new int[] {-1, 0, 5, 7, 8}) {
                Due.due("of(" + navigator + ", " + what + ")", x.of(navigator, what), LampLatitudes.NO_SUCH);
            }
        }
        Due.due("of(6, 0)", x.of(6, 0), 5);
    }

    private static void noSuchFact() {
        LampLatitudes x = new LampLatitudes();
        for (int what : new int[] {-1, 8, 9, Integer.MIN_VALUE, Integer.MAX_VALUE}) {
            Due.due("of(0, " + what + ")", x.of(0, what), LampLatitudes.BAD_VALUE);
            Due.due("of(6, " + what + ")", x.of(6, what), LampLatitudes.BAD_VALUE);
        }
        Due.due("of(0, 7)", x.of(0, 7), 979);
    }
}

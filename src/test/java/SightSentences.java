/** The sentences about sights: the term, and the promises 8, 16 and 17. */
final class SightSentences {
    private static final int[] WRONG = {-1, 7, 8, -6, 32, Integer.MIN_VALUE, Integer.MAX_VALUE};

    private SightSentences() {
    }

    static void run(Book book) {
        book.sentence("Sights", "A navigator cannot sight a star if one of these is so, the first one being the reason",
            SightSentences::firstReasons);
        book.sentence("Sights", "1 the navigator is asleep", SightSentences::asleep);
        book.sentence("Sights", "2 sulks", SightSentences::sulking);
        book.sentence("Sights", "3 the star is behind clouds", SightSentences::behindClouds);
        book.sentence("Sights", "4 its height is below LOW", SightSentences::belowLow);
        book.sentence("Sights", "A sight measures the height of the star, and an error: the bias, and (9 less the skill) * wobble",
            SightSentences::errors);
        book.sentence("Sights", "the wobble being (3 * the number of the navigator and 7 * the sights of that navigator so far,"
            + " together) left over by 11, less 5", SightSentences::wobbles);
        book.sentence("Sights", "How far what is measured is from 5400, without a sign, is how far the navigator believes to be from"
            + " the declination of the star", SightSentences::withoutASign);
        book.sentence("Sights", "to its north with the side 1, otherwise to its south", SightSentences::sides);
        book.sentence("Sights", "That latitude, but not beyond -5400 and 5400, is the estimate then", SightSentences::poles);
        book.sentence("Sights", "(in place of one that there is)", SightSentences::inPlace);
        book.sentence("Sights", "and the sight is counted", SightSentences::counted);
        book.sentence("Promise 8", "A navigator sights a star. This is a change.", SightSentences::sightIsAChange);
        book.sentence("Promise 8", "Returns the estimate and 5400", SightSentences::answersEstimate);
        book.sentence("Promise 8", "NO_SUCH if there is no such navigator or star", SightSentences::sightsNothing);
        book.sentence("Promise 8", "NOT_POSSIBLE if it cannot be sighted", SightSentences::cannotBeSighted);
        book.sentence("Promise 16", "Tells why a navigator cannot sight a star.", SightSentences::firstReasons);
        book.sentence("Promise 16", "Returns the reason, 1 to 4, or 0: it can be sighted", SightSentences::reasons);
        book.sentence("Promise 16", "NO_SUCH if there is no such navigator or star", SightSentences::asksWhyOfNothing);
        book.sentence("Promise 17", "Returns the estimate that a sight would give.", SightSentences::foretells);
        book.sentence("Promise 17", "Returns the estimate and 5400", SightSentences::foretellsPoles);
        book.sentence("Promise 17", "errors as for sight()", SightSentences::errorsAsForSight);
    }

    /** Each of the reasons together with those behind it. */
    private static void firstReasons() {
        LampLatitudes x = Rafts.withStars(0);
        Rafts.anger(x, 1, 3);
        int star = x.star(5400);
        Due.due("why(0), too low", x.why(0, star), 4);
        Due.due("why(1), sulking, too low", x.why(1, star), 2);
        x.cloud(star);
        Due.due("why(0), behind clouds, too low", x.why(0, star), 3);
        Due.due("why(1), sulking, behind clouds, too low", x.why(1, star), 2);
        x.sleep(0);
        Due.due("why(0), asleep, behind clouds, too low", x.why(0, star), 1);
        x.cloud(star);
        Due.due("why(0), asleep, too low", x.why(0, star), 1);
        x.cloud(0);
        Due.due("why(0), asleep, behind clouds", x.why(0, 0), 1);
        Due.due("why(1), sulking, behind clouds", x.why(1, 0), 2);
    }

    private static void due(LampLatitudes x, int navigator, int star, int reason) {
        String at = "(" + navigator + ", " + star + ")";
        Due.due("why" + at, x.why(navigator, star), reason);
        Due.due("in ofStar(" + star + ", 3): " + navigator, x.ofStar(star, 3) >> navigator & 1, reason == 0 ? 1 : 0);
        Due.due("ifSighted" + at + " answers", x.ifSighted(navigator, star) >= 0 ? 0 : x.ifSighted(navigator, star),
            reason == 0 ? 0 : LampLatitudes.NOT_POSSIBLE);
        int sights = x.of(navigator, 4);
        int answer = x.sight(navigator, star);
        Due.due("sight" + at + " answers", answer >= 0 ? 0 : answer, reason == 0 ? 0 : LampLatitudes.NOT_POSSIBLE);
        Due.due("sights so far after sight" + at, x.of(navigator, 4), reason == 0 ? sights + 1 : sights);
    }

    private static void asleep() {
        LampLatitudes x = Rafts.withStars(0);
        for (int navigator = 0; navigator < 7; navigator++) {
            due(x, navigator, 0, 0);
            x.sleep(navigator);
            due(x, navigator, 0, 1);
            x.sleep(navigator);
            due(x, navigator, 0, 0);
        }
    }

    private static void sulking() {
        LampLatitudes x = Rafts.withStars(0);
        Rafts.anger(x, 4, 2);
        due(x, 4, 0, 0);
        x = Rafts.withStars(0);
        Rafts.anger(x, 4, 3);
        due(x, 4, 0, 2);
        due(x, 5, 0, 0);
        x.night();
        due(x, 4, 0, 0);
    }

    private static void behindClouds() {
        LampLatitudes x = Rafts.withStars(0, 0, 0, 0, 0, 0, 0, 0);
        for (int star = 0; star < 8; star++) {
            due(x, 0, star, 0);
            x.cloud(star);
            due(x, 0, star, 3);
        }
        x.cloud(7);
        due(x, 0, 7, 0);
        due(x, 0, 6, 3);
    }

    private static void belowLow() {
        LampLatitudes x = Rafts.withStars(5100, 5101, -5100, -5101);
        due(x, 0, 0, 0);
        due(x, 0, 1, 4);
        due(x, 0, 2, 0);
        due(x, 0, 3, 4);
        x.set(LampLatitudes.LOW, 299);
        due(x, 0, 1, 0);
        due(x, 0, 3, 0);
        x.set(LampLatitudes.LOW, 301);
        due(x, 0, 0, 4);
        due(x, 0, 2, 4);
        x.set(LampLatitudes.LOW, 300);
        x.set(LampLatitudes.DRIFT, 1);
        x.sail(1);
        due(x, 0, 1, 0);
        due(x, 0, 2, 4);
    }

    /** Of the navigator 3 the first wobble is 4, of the navigator 0 it is -5, and its fourth one 5. */
    private static void errors() {
        LampLatitudes x = Rafts.withStars(-1000);
        for (int skill = 0; skill <= 9; skill++) {
            x.navigator(3, 0, skill);
            Due.due("ifSighted(3, 0) with the skill " + skill, x.ifSighted(3, 0), 5400 - (9 - skill) * 4);
            x.navigator(0, 0, skill);
            Due.due("ifSighted(0, 0) with the skill " + skill, x.ifSighted(0, 0), 5400 + (9 - skill) * 5);
        }
        for (int bias : new int[] {-60, -1, 0, 1, 60}) {
            x.navigator(0, 1, bias);
            x.navigator(0, 0, 9);
            Due.due("ifSighted(0, 0) with the bias " + bias, x.ifSighted(0, 0), 5400 - bias);
            x.navigator(0, 0, 0);
            Due.due("ifSighted(0, 0) with the bias " + bias + ", unskilled", x.ifSighted(0, 0), 5400 - bias + 45);
        }
        x.sight(0, 0);
        x.sight(0, 0);
        x.sight(0, 0);
        Due.due("ifSighted(0, 0), +60 and 9 * 5", x.ifSighted(0, 0), 5400 - 105);
    }

    /** The wobbles go round by 11 sights; each navigator begins elsewhere in the same row. */
    private static void wobbles() {
        int[] row = {-5, 2, -2, 5, 1, -3, 4, 0, -4, 3, -1};
        int[] begins = {0, 2, 4, 6, 8, 10, 1};
        LampLatitudes x = Rafts.withStars(0);
        for (int navigator = 0; navigator < 7; navigator++) {
            x.navigator(navigator, 0, 8);
            for (int sight = 0; sight <= 22; sight++) {
                int wobble = row[(begins[navigator] + sight) % 11];
                Due.due("of(" + navigator + ", 7) after " + sight + " sights", x.of(navigator, 7), 999 + wobble);
                Due.due("sight " + sight + " of " + navigator, x.sight(navigator, 0), 5400 + Math.abs(wobble));
            }
        }
    }

    private static void withoutASign() {
        LampLatitudes x = Due.skilled();
        x.star(-10);
        int[] biases = {-60, -11, -10, -1, 0, 1, 9, 10, 11, 60};
        for (int bias : biases) {
            x.navigator(0, 1, bias);
            Due.due("ifSighted(0, 0) with the bias " + bias, x.ifSighted(0, 0), 5400 + Math.max(bias, -bias));
            int away = bias <= 10 ? 10 - bias : bias - 10;
            Due.due("ifSighted(0, 1) with the bias " + bias, x.ifSighted(0, 1), 5390 + away);
        }
        x.navigator(0, 2, 0);
        x.navigator(0, 1, 11);
        Due.due("ifSighted(0, 1) to the south", x.ifSighted(0, 1), 5389);
    }

    private static void sides() {
        LampLatitudes x = Due.skilled();
        x.star(300);
        x.star(-300);
        int[] north = {5400, 6000, 5400};
        int[] south = {5400, 5400, 4800};
        for (int star = 0; star < 3; star++) {
            x.navigator(6, 2, 1);
            Due.due("sight(6, " + star + ") with the side 1", x.sight(6, star), north[star]);
            x.navigator(6, 2, 0);
            Due.due("sight(6, " + star + ") with the side 0", x.sight(6, star), south[star]);
        }
    }

    private static void poles() {
        LampLatitudes x = Due.skilled();
        int[] declinations = {2699, 2700, 2701, -2699, -2700, -2701, 5100};
        int[] north = {5398, 5400, 5400, 0, 0, 0, 5400};
        int[] south = {0, 0, 0, -5398, -5400, -5400, 0};
        for (int i = 0; i < 7; i++) {
            x.star(declinations[i]);
            Due.due("sight(0, ..) of " + declinations[i], x.sight(0, i + 1), north[i] + 5400);
            Due.due("of(0, 5)", x.of(0, 5), north[i] + 5400);
            x.navigator(1, 2, 0);
            Due.due("sight(1, ..) of " + declinations[i], x.sight(1, i + 1), south[i] + 5400);
            Due.due("of(1, 5)", x.of(1, 5), south[i] + 5400);
        }
        x.navigator(0, 1, -60);
        Due.due("sight(0, 2) with a bias", x.sight(0, 2), 10800);
        x.navigator(1, 1, -60);
        Due.due("sight(1, 5) with a bias", x.sight(1, 5), 0);
        x.navigator(0, 1, 1);
        Due.due("sight(0, 2) with another bias", x.sight(0, 2), 10799);
        x.navigator(1, 1, 1);
        Due.due("sight(1, 5) with another bias", x.sight(1, 5), 1);
    }

    private static void inPlace() {
        LampLatitudes x = Rafts.estimating(7, 8, 9);
        Rafts.estimateOne(x, 1, -50);
        Due.due("of(1, 5)", x.of(1, 5), 5350);
        Due.due("count(8)", x.count(8), 7);
        Due.due("agree()", x.agree(), 5407);
        Due.due("of(1, 5), the one before is not back", x.of(1, 5), LampLatitudes.NONE);
    }

    private static void counted() {
        LampLatitudes x = Rafts.withStars(0, 5400);
        x.sight(2, 0);
        x.sight(2, 0);
        x.sight(6, 0);
        Due.due("of(2, 4)", x.of(2, 4), 2);
        Due.due("of(6, 4)", x.of(6, 4), 1);
        Due.due("of(0, 4)", x.of(0, 4), 0);
        Due.due("count(5)", x.count(5), 3);
        x.sight(2, 1);
        x.ifSighted(2, 0);
        x.why(2, 0);
        Due.due("of(2, 4), no sight since", x.of(2, 4), 2);
        Due.due("count(5), no sight since", x.count(5), 3);
        x.undo();
        Due.due("of(6, 4), undone", x.of(6, 4), 0);
    }

    private static void sightIsAChange() {
        Rafts.dueOneChange("sight(0, 0), in place of an estimate", x -> x.sight(0, 0));
        Rafts.dueOneChange("sight(3, 0), without one", x -> x.sight(3, 0));
    }

    private static void answersEstimate() {
        Rafts.estimating(-5400, -5399, -1, 0, 1, 5399, 5400);
        LampLatitudes x = Rafts.withStars(0);
        Due.due("sight(0, 0)", x.sight(0, 0), 5420);
        Due.due("of(0, 5)", x.of(0, 5), 5420);
    }

    private static void sightsNothing() {
        LampLatitudes x = new LampLatitudes();
        Due.due("sight(0, 0) without stars", x.sight(0, 0), LampLatitudes.NO_SUCH);
        x.star(0);
        for (int wrong : WRONG) {
            Due.due("sight(" + wrong + ", 0)", x.sight(wrong, 0), LampLatitudes.NO_SUCH);
            Due.due("sight(0, " + wrong + ")", x.sight(0, wrong), LampLatitudes.NO_SUCH);
            Due.due("sight(" + wrong + ", " + wrong + ")", x.sight(wrong, wrong), LampLatitudes.NO_SUCH);
        }
        Due.due("sight(0, 1)", x.sight(0, 1), LampLatitudes.NO_SUCH);
        x.sleep(0);
        Due.due("sight(0, 1), asleep", x.sight(0, 1), LampLatitudes.NO_SUCH);
        Rafts.anger(x, 3, 3);
        Due.due("sight(3, 7), sulking", x.sight(3, 7), LampLatitudes.NO_SUCH);
        x.cloud(0);
        Due.due("sight(7, 0), behind clouds", x.sight(7, 0), LampLatitudes.NO_SUCH);
        LampLatitudes full = Rafts.withStars(0, 0, 0, 0, 0, 0, 0, 0);
        Due.due("sight(6, 7), the last ones", full.sight(6, 7), 5408);
        Due.due("sight(6, 8)", full.sight(6, 8), LampLatitudes.NO_SUCH);
    }

    private static void cannotBeSighted() {
        LampLatitudes x = Rafts.withStars(0, 5101, 1);
        Rafts.anger(x, 1, 3);
        x.sleep(0);
        x.cloud(2);
        Due.due("sight(0, 0), asleep", x.sight(0, 0), LampLatitudes.NOT_POSSIBLE);
        Due.due("sight(1, 0), sulking", x.sight(1, 0), LampLatitudes.NOT_POSSIBLE);
        Due.due("sight(2, 2), behind clouds", x.sight(2, 2), LampLatitudes.NOT_POSSIBLE);
        Due.due("sight(2, 1), too low", x.sight(2, 1), LampLatitudes.NOT_POSSIBLE);
        Due.due("count(8)", x.count(8), 0);
        Due.due("sight(4, 0)", x.sight(4, 0) >= 0 ? 1 : 0, 1);
    }

    private static void reasons() {
        LampLatitudes x = Rafts.withStars(0, 5101, 1);
        Rafts.anger(x, 1, 3);
        x.sleep(0);
        x.cloud(2);
        Due.due("why(2, 0)", x.why(2, 0), 0);
        Due.due("why(0, 0)", x.why(0, 0), 1);
        Due.due("why(1, 0)", x.why(1, 0), 2);
        Due.due("why(2, 2)", x.why(2, 2), 3);
        Due.due("why(2, 1)", x.why(2, 1), 4);
    }

    private static void asksWhyOfNothing() {
        LampLatitudes x = new LampLatitudes();
        Due.due("why(0, 0) without stars", x.why(0, 0), LampLatitudes.NO_SUCH);
        x.star(0);
        for (int wrong : WRONG) {
            Due.due("why(" + wrong + ", 0)", x.why(wrong, 0), LampLatitudes.NO_SUCH);
            Due.due("why(0, " + wrong + ")", x.why(0, wrong), LampLatitudes.NO_SUCH);
        }
        x.sleep(0);
        Due.due("why(0, 1), asleep", x.why(0, 1), LampLatitudes.NO_SUCH);
        Due.due("why(6, 0)", x.why(6, 0), 0);
        LampLatitudes full = Rafts.withStars(0, 0, 0, 0, 0, 0, 0, 0);
        Due.due("why(6, 7), the last ones", full.why(6, 7), 0);
        Due.due("why(6, 8)", full.why(6, 8), LampLatitudes.NO_SUCH);
    }

    private static void foretells() {
        LampLatitudes x = Rafts.withStars(0, 100, -2000);
        for (int round = 0; round < 4; round++) {
            for (int navigator = 0; navigator < 7; navigator++) {
                int foretold = x.ifSighted(navigator, round % 3);
                Due.due("ifSighted() once more", x.ifSighted(navigator, round % 3), foretold);
                Due.due("sight() as foretold", x.sight(navigator, round % 3), foretold);
                Due.due("of(.., 5) as foretold", x.of(navigator, 5), foretold);
            }
        }
        Due.due("ifSighted(0, 0), with 7 * 4 over by 11", x.ifSighted(0, 0), 5404);
        Due.due("count(5)", x.count(5), 28);
    }

    private static void foretellsPoles() {
        LampLatitudes x = Due.skilled();
        x.star(2700);
        x.star(2701);
        x.star(-2701);
        Due.due("ifSighted(0, 1)", x.ifSighted(0, 1), 10800);
        Due.due("ifSighted(0, 2)", x.ifSighted(0, 2), 10800);
        x.navigator(0, 2, 0);
        Due.due("ifSighted(0, 3)", x.ifSighted(0, 3), 0);
        Due.due("of(0, 5)", x.of(0, 5), LampLatitudes.NONE);
    }

    private static void errorsAsForSight() {
        LampLatitudes x = new LampLatitudes();
        Due.due("ifSighted(0, 0) without stars", x.ifSighted(0, 0), LampLatitudes.NO_SUCH);
        x.star(0);
        x.star(5101);
        for (int wrong : WRONG) {
            Due.due("ifSighted(" + wrong + ", 0)", x.ifSighted(wrong, 0), LampLatitudes.NO_SUCH);
            Due.due("ifSighted(0, " + wrong + ")", x.ifSighted(0, wrong), LampLatitudes.NO_SUCH);
        }
        Due.due("ifSighted(2, 1), too low", x.ifSighted(2, 1), LampLatitudes.NOT_POSSIBLE);
        x.cloud(1);
        Due.due("ifSighted(2, 1), behind clouds", x.ifSighted(2, 1), LampLatitudes.NOT_POSSIBLE);
        Rafts.anger(x, 1, 3);
        Due.due("ifSighted(1, 0), sulking", x.ifSighted(1, 0), LampLatitudes.NOT_POSSIBLE);
        x.sleep(0);
        Due.due("ifSighted(0, 0), asleep", x.ifSighted(0, 0), LampLatitudes.NOT_POSSIBLE);
        Due.due("ifSighted(0, 3), asleep", x.ifSighted(0, 3), LampLatitudes.NO_SUCH);
    }
}

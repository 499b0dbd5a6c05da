/** The sentences about stars: the term, and the promises 1, 3, 4, 13 and 19. */
final class StarSentences {
    private StarSentences() {
    }

    static void run(Book book) {
        book.sentence("Stars, navigators", "There are up to 8 stars, numbered in the order in which they came",
            StarSentences::upToEight);
        book.sentence("Stars, navigators", "each with a declination, behind clouds or not (at first not)",
            StarSentences::newStars);
        book.sentence("Stars, navigators", "The raft is at a latitude (0 at first)", StarSentences::firstLatitude);
        book.sentence("Stars, navigators", "The height of a star is 5400 less how far its declination is from the latitude of the"
            + " raft, without a sign (so it can be below 0)", StarSentences::heights);
        book.sentence("Promise 1", "Creates a raft at the latitude 0, without stars.", StarSentences::newRaft);
        book.sentence("Promise 3", "A star comes. This is a change.", StarSentences::comingIsAChange);
        book.sentence("Promise 3", "`declination`: -5400 to 5400", StarSentences::declinations);
        book.sentence("Promise 3", "Returns its number", StarSentences::numbers);
        book.sentence("Promise 3", "BAD_VALUE if declination is out of range", StarSentences::wrongDeclinations);
        book.sentence("Promise 3", "TOO_MANY if there are 8", StarSentences::tooManyStars);
        book.sentence("Promise 4", "Clouds come before a star, or go away from it. This is a change.",
            StarSentences::cloudsAreChanges);
        book.sentence("Promise 4", "Returns 1 if it is behind clouds then, otherwise 0", StarSentences::cloudsComeAndGo);
        book.sentence("Promise 4", "NO_SUCH if there is no such star", StarSentences::cloudsBeforeNoStar);
        book.sentence("Promise 13", "Returns something about a star.", StarSentences::asksOneStar);
        book.sentence("Promise 13", "0 its declination and 5400", StarSentences::toldDeclinations);
        book.sentence("Promise 13", "1 whether it is behind clouds (1 or 0)", StarSentences::toldClouds);
        book.sentence("Promise 13", "2 its height and 5400", StarSentences::toldHeights);
        book.sentence("Promise 13", "3 navigators who could sight it now, as a set", StarSentences::whoCouldSight);
        book.sentence("Promise 13", "NO_SUCH if there is no such star", StarSentences::noSuchStar);
        book.sentence("Promise 13", "BAD_VALUE if what is out of range", StarSentences::noSuchFact);
        book.sentence("Promise 19", "Finds the star that is the highest", StarSentences::highest);
        book.sentence("Promise 19", "of those that are not behind clouds", StarSentences::notBehindClouds);
        book.sentence("Promise 19", "and not below LOW", StarSentences::notBelowLow);
        book.sentence("Promise 19", "of several the lowest number", StarSentences::lowestNumber);
        book.sentence("Promise 19", "Returns the star; NONE if there is none.", StarSentences::noBestStar);
    }

    private static void upToEight() {
        LampLatitudes x = new LampLatitudes();
        for (int star = 0; star < 8; star++) {
            Due.due("ofStar(" + star + ", 0), not yet", x.ofStar(star, 0), LampLatitudes.NO_SUCH);
            Due.due("star " + star, x.star(7 - star), star);
            Due.due("save(0), how many there are", x.save(0), star + 1);
        }
        Due.due("a ninth star", x.star(0) < 0 ? 1 : 0, 1);
        Due.due("ofStar(8, 0)", x.ofStar(8, 0), LampLatitudes.NO_SUCH);
        for (int star = 0; star < 8; star++) {
            Due.due("ofStar(" + star + ", 0)", x.ofStar(star, 0), 5407 - star);
        }
    }

    private static void newStars() {
        LampLatitudes x = new LampLatitudes();
        for (int star = 0; star < 8; star++) {
            x.star(star);
            Due.due("ofStar(" + star + ", 1), at first", x.ofStar(star, 1), 0);
            x.cloud(star);
        }
        x.undo();
        x.undo();
        x.star(99);
        Due.due("ofStar(7, 1), the star that came instead", x.ofStar(7, 1), 0);
        Due.due("why(0, 7)", x.why(0, 7), 0);
    }

    private static void firstLatitude() {
        LampLatitudes x = Rafts.withStars(0);
        Due.due("count(0)", x.count(0), 5400);
        Due.due("ofStar(0, 2)", x.ofStar(0, 2), 10800);
    }

    private static void heights() {
        int[] latitudes = {0, 1, -1, 5400, -5400};
        int[] declinations = {0, 1, -1, 5400, -5400, 5399, -5399, 700};
        for (int latitude : latitudes) {
            LampLatitudes x = Rafts.at(latitude);
            for (int star = 0; star < 8; star++) {
                x.star(declinations[star]);
                int away = Math.max(declinations[star] - latitude, latitude - declinations[star]);
                Due.due("ofStar(.., 2) of " + declinations[star] + " from " + latitude, x.ofStar(star, 2), 10800 - away);
            }
        }
        LampLatitudes x = Rafts.at(5400);
        x.star(-5400);
        Due.due("ofStar(0, 2), 5400 below the horizon", x.ofStar(0, 2), 0);
        x.star(0);
        Due.due("ofStar(1, 2), at the horizon", x.ofStar(1, 2), 5400);
        x.star(-1);
        Due.due("ofStar(2, 2), just below it", x.ofStar(2, 2), 5399);
    }

    private static void newRaft() {
        LampLatitudes x = new LampLatitudes();
        Due.due("count(0)", x.count(0), 5400);
        for (int star = 0; star < 9; star++) {
            Due.due("ofStar(" + star + ", 0)", x.ofStar(star, 0), LampLatitudes.NO_SUCH);
            Due.due("why(0, " + star + ")", x.why(0, star), LampLatitudes.NO_SUCH);
        }
        Due.due("bestStar()", x.bestStar(), LampLatitudes.NONE);
        Due.due("save(1), how many stars", x.save(1), 0);
    }

    private static void comingIsAChange() {
        Rafts.dueOneChange("star(5400)", x -> x.star(5400));
        Rafts.dueOneChange("star(0), where there is one", x -> x.star(0));
    }

    private static void declinations() {
        LampLatitudes x = new LampLatitudes();
        Due.due("star(-5400)", x.star(-5400), 0);
        Due.due("star(-5399)", x.star(-5399), 1);
        Due.due("star(5399)", x.star(5399), 2);
        Due.due("star(5400)", x.star(5400), 3);
        Due.due("ofStar(0, 0)", x.ofStar(0, 0), 0);
        Due.due("ofStar(1, 0)", x.ofStar(1, 0), 1);
        Due.due("ofStar(2, 0)", x.ofStar(2, 0), 10799);
        Due.due("ofStar(3, 0)", x.ofStar(3, 0), 10800);
    }

    private static void numbers() {
        LampLatitudes x = new LampLatitudes();
        for (int star = 0; star < 8; star++) {
            Due.due("star(0)", x.star(0), star);
        }
        x.undo();
        x.undo();
        Due.due("star(0) after undo()", x.star(0), 6);
    }

    private static void wrongDeclinations() {
        LampLatitudes x = new LampLatitudes();
        for (int declination : new int[] {-5401, 5401, 10800, -10800, Integer.MIN_VALUE, Integer.MAX_VALUE}) {
            Due.due("star(" + declination + ")", x.star(declination), LampLatitudes.BAD_VALUE);
        }
        Due.due("ofStar(0, 0)", x.ofStar(0, 0), LampLatitudes.NO_SUCH);
        LampLatitudes full = Rafts.withStars(0, 0, 0, 0, 0, 0, 0, 0);
        Due.due("star(5401), a ninth one", full.star(5401), LampLatitudes.BAD_VALUE);
        Due.due("star(-5401), a ninth one", full.star(-5401), LampLatitudes.BAD_VALUE);
    }

    private static void tooManyStars() {
        LampLatitudes x = Rafts.withStars(1, 2, 3, 4, 5, 6, 7);
        Due.due("an eighth star", x.star(8), 7);
        Due.due("a ninth star", x.star(9), LampLatitudes.TOO_MANY);
        Due.due("a ninth star, at the pole", x.star(-5400), LampLatitudes.TOO_MANY);
        Due.due("ofStar(7, 0)", x.ofStar(7, 0), 5408);
        Due.due("undo() of the eighth", x.undo(), 5);
        Due.due("an eighth star, once more", x.star(9), 7);
        Due.due("a ninth star", x.star(9), LampLatitudes.TOO_MANY);
    }

    private static void cloudsAreChanges() {
        Rafts.dueOneChange("cloud(0), they come", x -> x.cloud(0));
        Rafts.dueOneChange("cloud(3), they go away", x -> x.cloud(3));
    }

    private static void cloudsComeAndGo() {
        LampLatitudes x = Rafts.withStars(0, 1, 2, 3, 4, 5, 6, 7);
        for (int star : new int[] {0, 7, 4}) {
            Due.due("cloud(" + star + ")", x.cloud(star), 1);
            Due.due("why(0, " + star + ")", x.why(0, star), 3);
            Due.due("cloud(" + star + ")", x.cloud(star), 0);
            Due.due("why(0, " + star + ")", x.why(0, star), 0);
            Due.due("cloud(" + star + ")", x.cloud(star), 1);
        }
        for (int star = 0; star < 8; star++) {
            Due.due("ofStar(" + star + ", 1)", x.ofStar(star, 1), star == 0 || star == 4 || star == 7 ? 1 : 0);
        }
    }

    private static void cloudsBeforeNoStar() {
        LampLatitudes x = new LampLatitudes();
        Due.due("cloud(0) without stars", x.cloud(0), LampLatitudes.NO_SUCH);
        x.star(0);
        x.star(1);
        for (int star : new int[] {-1, 2, 7, 8, 31, 32, 33, 64, -32, Integer.MIN_VALUE, Integer.MAX_VALUE}) {
            Due.due("cloud(" + star + ")", x.cloud(star), LampLatitudes.NO_SUCH);
        }
        Due.due("cloud(1), the last one", x.cloud(1), 1);
        LampLatitudes full = Rafts.withStars(0, 0, 0, 0, 0, 0, 0, 0);
        Due.due("cloud(7) of eight", full.cloud(7), 1);
        Due.due("cloud(8) of eight", full.cloud(8), LampLatitudes.NO_SUCH);
    }

    private static void asksOneStar() {
        LampLatitudes x = Rafts.withStars(10, -20);
        x.cloud(1);
        long[][] dues = {{5410, 0, 10790, 127}, {5380, 1, 10780, 0}};
        for (int star = 0; star < 2; star++) {
            for (int what = 0; what < 4; what++) {
                Due.due("ofStar(" + star + ", " + what + ")", x.ofStar(star, what), dues[star][what]);
            }
        }
    }

    private static void toldDeclinations() {
        int[] declinations = {-5400, -5399, -1, 0, 1, 300, 5399, 5400};
        LampLatitudes x = Rafts.withStars(declinations);
        for (int star = 0; star < 8; star++) {
            Due.due("ofStar(" + star + ", 0)", x.ofStar(star, 0), declinations[star] + 5400);
        }
    }

    private static void toldClouds() {
        LampLatitudes x = Rafts.withStars(0, 0, 0, 0, 0, 0, 0, 0);
        for (int star = 0; star < 8; star++) {
            x.cloud(star);
            for (int other = 0; other < 8; other++) {
                Due.due("ofStar(" + other + ", 1)", x.ofStar(other, 1), other <= star ? 1 : 0);
            }
        }
        x.cloud(7);
        Due.due("ofStar(7, 1), clouds away", x.ofStar(7, 1), 0);
    }

    private static void toldHeights() {
        LampLatitudes x = Rafts.withStars(5400, 5399, 0, -5400);
        int[] heights = {5400, 5401, 10800, 5400};
        for (int star = 0; star < 4; star++) {
            Due.due("ofStar(" + star + ", 2)", x.ofStar(star, 2), heights[star]);
        }
        x.set(LampLatitudes.DRIFT, -1);
        x.sail(1);
        int[] after = {5399, 5400, 10799, 5401};
        for (int star = 0; star < 4; star++) {
            Due.due("ofStar(" + star + ", 2) from -1", x.ofStar(star, 2), after[star]);
        }
    }

    private static void whoCouldSight() {
        LampLatitudes x = Rafts.withStars(0, 5100, 5101);
        Rafts.anger(x, 6, 3);
        x.sleep(0);
        x.sleep(3);
        int awake = 127 - 64 - 1 - 8;
        Due.due("ofStar(0, 3), two asleep, one sulks", x.ofStar(0, 3), awake);
        Due.due("ofStar(1, 3), as high as LOW", x.ofStar(1, 3), awake);
        Due.due("ofStar(2, 3), below LOW", x.ofStar(2, 3), 0);
        x.cloud(0);
        Due.due("ofStar(0, 3), behind clouds", x.ofStar(0, 3), 0);
        x.cloud(0);
        x.sleep(0);
        Due.due("ofStar(0, 3), one awake again", x.ofStar(0, 3), awake + 1);
        x.night();
        Due.due("ofStar(0, 3), nobody sulks", x.ofStar(0, 3), awake + 1 + 64);
    }

    private static void noSuchStar() {
        LampLatitudes x = new LampLatitudes();
        Due.due("ofStar(0, 0) without stars", x.ofStar(0, 0), LampLatitudes.NO_SUCH);
        x.star(0);
        for (int star : new int[] {-1, 1, 7, 8, 32, Integer.MIN_VALUE, Integer.MAX_VALUE}) {
            for (int what : new int[] {-1, 0, 3, 4}) {
                Due.due("ofStar(" + star + ", " + what + ")", x.ofStar(star, what), LampLatitudes.NO_SUCH);
            }
        }
        LampLatitudes full = Rafts.withStars(0, 0, 0, 0, 0, 0, 0, 1);
        Due.due("ofStar(7, 0) of eight", full.ofStar(7, 0), 5401);
        Due.due("ofStar(8, 0) of eight", full.ofStar(8, 0), LampLatitudes.NO_SUCH);
    }

    private static void noSuchFact() {
        LampLatitudes x = Rafts.withStars(0);
        for (int what : new int[] {-1, 4, 5, Integer.MIN_VALUE, Integer.MAX_VALUE}) {
            Due.due("ofStar(0, " + what + ")", x.ofStar(0, what), LampLatitudes.BAD_VALUE);
        }
        Due.due("ofStar(0, 3)", x.ofStar(0, 3), 127);
    }

    private static void highest() {
        Due.due("bestStar(), the first", Rafts.withStars(1, 2, -3, 4, -5, 6, -7, 8).bestStar(), 0);
        Due.due("bestStar(), the last", Rafts.withStars(-8, 7, -6, 5, -4, 3, -2, 1).bestStar(), 7);
        Due.due("bestStar(), one amidst", Rafts.withStars(-8, 7, 2, 5, -4).bestStar(), 2);
        LampLatitudes x = Rafts.at(100);
        x.star(0);
        x.star(199);
        x.star(-5000);
        Due.due("bestStar(), nearest to the latitude", x.bestStar(), 1);
    }

    private static void notBehindClouds() {
        LampLatitudes x = Rafts.withStars(3, 0, 1);
        x.cloud(1);
        Due.due("bestStar(), the highest behind clouds", x.bestStar(), 2);
        x.cloud(2);
        Due.due("bestStar(), two behind clouds", x.bestStar(), 0);
        x.cloud(0);
        Due.due("bestStar(), all behind clouds", x.bestStar(), LampLatitudes.NONE);
        x.cloud(1);
        Due.due("bestStar(), clouds away", x.bestStar(), 1);
    }

    private static void notBelowLow() {
        LampLatitudes x = Rafts.withStars(5101, 5100);
        Due.due("bestStar(), as high as LOW", x.bestStar(), 1);
        x.set(LampLatitudes.LOW, 301);
        Due.due("bestStar(), lower by 1", x.bestStar(), LampLatitudes.NONE);
        x.set(LampLatitudes.LOW, 0);
        Due.due("bestStar(), LOW at 0", x.bestStar(), 1);
        LampLatitudes down = Rafts.at(-1);
        down.set(LampLatitudes.LOW, 0);
        down.star(5400);
        Due.due("bestStar(), below the horizon", down.bestStar(), LampLatitudes.NONE);
        down.star(5399);
        Due.due("bestStar(), at the horizon", down.bestStar(), 1);
    }

    private static void lowestNumber() {
        LampLatitudes x = Rafts.withStars(50, -7, 7, -7, 7);
        Due.due("bestStar(), of four", x.bestStar(), 1);
        x.cloud(1);
        Due.due("bestStar(), of three", x.bestStar(), 2);
        x.cloud(1);
        Due.due("bestStar(), of four again", x.bestStar(), 1);
        Due.due("bestStar(), of eight", Rafts.withStars(0, 0, 0, 0, 0, 0, 0, 0).bestStar(), 0);
    }

    private static void noBestStar() {
        LampLatitudes x = new LampLatitudes();
        Due.due("bestStar() without stars", x.bestStar(), LampLatitudes.NONE);
        x.star(5400);
        Due.due("bestStar(), too low", x.bestStar(), LampLatitudes.NONE);
        x.star(0);
        Due.due("bestStar(), the only one", x.bestStar(), 1);
        for (int navigator = 0; navigator < 7; navigator++) {
            x.sleep(navigator);
        }
        Due.due("bestStar(), all asleep", x.bestStar(), 1);
        x.cloud(1);
        Due.due("bestStar(), behind clouds", x.bestStar(), LampLatitudes.NONE);
    }
}

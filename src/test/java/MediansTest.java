/** Promises 9, 18 and 20: agree, median and nearest. */
public final class MediansTest {
    public static void main(String[] args) {
        tooFew();
        lowerOfTwo();
        whoIsAway();
        quarrels();
        quarrelsFarAway();
        angerAndSulks();
        nearest();
        Due.end();
    }

    /** Gives the navigators from 0 on the estimates that are wanted. */
    private static LampLatitudes with(int... wanted) {
        LampLatitudes x = Due.skilled();
        for (int navigator = 0; navigator < wanted.length; navigator++) {
            Due.estimate(x, navigator, wanted[navigator]);
        }
        return x;
    }

    private static void tooFew() {
        LampLatitudes x = with(5, 6);
        Due.due("median(NONE) of two", x.median(LampLatitudes.NONE), LampLatitudes.NOT_POSSIBLE);
        Due.due("agree() of two", x.agree(), LampLatitudes.NOT_POSSIBLE);
        Due.due("count(1)", x.count(1), LampLatitudes.NONE);
        Due.due("count(6)", x.count(6), 0);
        Due.due("count(8)", x.count(8), 3);
        int[] wrong = {-1, -2, -5, -7, 7, Integer.MIN_VALUE, Integer.MAX_VALUE};
        for (int navigator : wrong) {
            Due.due("median(" + navigator + ")", x.median(navigator), LampLatitudes.NO_SUCH);
        }
        Due.estimate(x, 2, 7);
        Due.due("median(NONE) of three", x.median(LampLatitudes.NONE), 5406);
        Due.due("median(0), one away", x.median(0), LampLatitudes.NOT_POSSIBLE);
        Due.due("median(6), one away who has none", x.median(6), 5406);
    }

    private static void lowerOfTwo() {
        LampLatitudes x = with(40, -30, 20, -10);
        Due.due("median(NONE)", x.median(LampLatitudes.NONE), 5390);
        Due.due("median(0)", x.median(0), 5390);
        Due.due("median(1)", x.median(1), 5420);
        Due.due("median(2)", x.median(2), 5390);
        Due.due("median(3)", x.median(3), 5420);
        Due.estimate(x, 4, 21);
        Due.estimate(x, 5, 22);
        Due.due("median(NONE) of six", x.median(LampLatitudes.NONE), 5420);
        Due.estimate(x, 6, 22);
        String before = Due.portraitOfAll(x);
        Due.due("median(NONE) of seven", x.median(LampLatitudes.NONE), 5421);
        Due.due("median(5)", x.median(5), 5420);
        Due.due("portrait after median()", Due.portraitOfAll(x), before);
        Due.due("agree() of seven", x.agree(), 5421);
        Due.due("count(1)", x.count(1), 5421);
        Due.due("count(8)", x.count(8), 0);
        LampLatitudes same = with(9, 9, 9, 9, 8);
        Due.due("agree() of four alike", same.agree(), 5409);
        LampLatitudes pairs = with(9, -9, 9, -9);
        Due.due("agree() of two and two alike", pairs.agree(), 5391);
    }

    private static void whoIsAway() {
        LampLatitudes x = with(1, 2, 3, 50);
        x.sleep(3);
        Due.due("median(NONE), one asleep", x.median(LampLatitudes.NONE), 5402);
        Due.due("median(3), one asleep", x.median(3), 5402);
        Due.due("median(2), one asleep", x.median(2), LampLatitudes.NOT_POSSIBLE);
        Due.due("agree(), one asleep", x.agree(), 5402);
        Due.due("of(3, 5), kept", x.of(3, 5), 5450);
        Due.due("of(3, 3), not angrier", x.of(3, 3), 0);
        Due.due("count(8)", x.count(8), 8);
        Due.due("agree(), too few", x.agree(), LampLatitudes.NOT_POSSIBLE);
        x.sleep(3);
        Due.estimate(x, 0, -1);
        Due.estimate(x, 1, -2);
        Due.due("agree(), awake again", x.agree(), 5399);
    }

    private static void quarrels() {
        LampLatitudes x = with(0, 0, 0, 60, -60);
        Due.due("agree()", x.agree(), 5400);
        Due.due("count(7), nobody farther than QUARREL", x.count(7), 0);
        x.set(LampLatitudes.QUARREL, 59);
        int[] wanted = {0, 0, 0, 60, -60, 59, -59};
        for (int navigator = 0; navigator < 7; navigator++) {
            Due.estimate(x, navigator, wanted[navigator]);
        }
        Due.due("agree()", x.agree(), 5400);
        Due.due("count(7)", x.count(7), 2);
        Due.due("count(6)", x.count(6), 2);
        int[] anger = {0, 0, 0, 1, 1, 0, 0};
        for (int navigator = 0; navigator < 7; navigator++) {
            Due.due("of(" + navigator + ", 3)", x.of(navigator, 3), anger[navigator]);
        }
        Due.due("set(QUARREL) is kept", x.count(13), 59);
    }

    private static void quarrelsFarAway() {
        LampLatitudes x = with(50, 50, 50, -20, -9, 60);
        Due.due("agree()", x.agree(), 5450);
        int[] anger = {0, 0, 0, 1, 0, 0, 0};
        for (int navigator = 0; navigator < 7; navigator++) {
            Due.due("of(" + navigator + ", 3)", x.of(navigator, 3), anger[navigator]);
        }
    }

    private static void angerAndSulks() {
        LampLatitudes x = Due.skilled();
        x.set(LampLatitudes.QUARREL, 20);
        quarrelOf(x, 50, 30);
        Due.due("of(2, 3)", x.of(2, 3), 1);
        quarrelOf(x, 50, 20);
        Due.due("of(2, 3)", x.of(2, 3), 2);
        Due.due("of(3, 3), calm again", x.of(3, 3), 0);
        Due.due("of(2, 6), still awake", x.of(2, 6), 0);
        Due.due("count(9)", x.count(9), 0);
        quarrelOf(x, 0, 30);
        Due.due("of(2, 3), calm again", x.of(2, 3), 0);
        Due.due("of(3, 3)", x.of(3, 3), 1);
        quarrelOf(x, -21, 30);
        quarrelOf(x, -22, 30);
        Due.due("of(2, 3)", x.of(2, 3), 2);
        Due.due("of(3, 6), sulks", x.of(3, 6), 2);
        Due.due("of(3, 3)", x.of(3, 3), 3);
        Due.due("of(3, 5)", x.of(3, 5), LampLatitudes.NONE);
        Due.due("count(9)", x.count(9), 8);
        Due.due("count(7)", x.count(7), 2 + 1 + 1 + 2 + 2);
        Due.due("count(6)", x.count(6), 5);
        Due.due("sight(3, 0), sulking", x.sight(3, 0), LampLatitudes.NOT_POSSIBLE);
        for (int time = 0; time < 3; time++) {
            Due.estimate(x, 0, 50);
            Due.estimate(x, 1, 1);
            Due.estimate(x, 2, 1);
            Due.due("agree()", x.agree(), 5401);
        }
        Due.due("count(9), two of them", x.count(9), 9);
    }

    /** A median of 0, or next to it, with two more estimates, of the navigators 2 and 3. */
    private static void quarrelOf(LampLatitudes x, int second, int third) {
        Due.estimate(x, 0, 0);
        Due.estimate(x, 1, 0);
        Due.estimate(x, 4, 0);
        Due.estimate(x, 2, second);
        Due.estimate(x, 3, third);
        Due.due("agree()", x.agree(), 5400);
    }

    private static void nearest() {
        LampLatitudes x = Due.skilled();
        Due.due("nearest(0), no estimate", x.nearest(0), LampLatitudes.NONE);
        Due.due("nearest(1), no estimate", x.nearest(1), LampLatitudes.NONE);
        Due.due("nearest(-1)", x.nearest(-1), LampLatitudes.BAD_VALUE);
        Due.due("nearest(2)", x.nearest(2), LampLatitudes.BAD_VALUE);
        Due.estimate(x, 5, 40);
        Due.estimate(x, 4, -35);
        Due.due("nearest(0)", x.nearest(0), 4);
        Due.due("nearest(1)", x.nearest(1), 35);
        Due.estimate(x, 3, 35);
        Due.due("nearest(0), of two", x.nearest(0), 3);
        Due.estimate(x, 2, -36);
        Due.due("nearest(0)", x.nearest(0), 3);
        x.sleep(3);
        Due.due("nearest(0), asleep", x.nearest(0), 3);
        x.sail(1);
        Due.due("nearest(1), the raft has drifted", x.nearest(1), 31);
        x.sail(2);
        Due.due("nearest(1), the raft has drifted", x.nearest(1), 23);
        x.navigator(0, 1, -2);
        Due.due("sight(0, 0) from the latitude 12", x.sight(0, 0), 5414);
        Due.due("nearest(0), the first one", x.nearest(0), 0);
        Due.due("nearest(1), the first one", x.nearest(1), 2);
        Due.due("nearest(2)", x.nearest(2), LampLatitudes.BAD_VALUE);
        x.night();
        Due.due("nearest(0), after a night", x.nearest(0), LampLatitudes.NONE);
    }
}

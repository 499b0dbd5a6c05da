/** Promises 11 and 14: night and log. */
public final class NightsTest {
    public static void main(String[] args) {
        lines();
        latestLines();
        whatANightEnds();
        mostNights();
        Due.end();
    }

    private static void line(LampLatitudes x, int rank, int night, int latitude, int belief, int tooFar) {
        int[] facts = {night, latitude, belief, tooFar};
        for (int what = 0; what < 4; what++) {
            Due.due("log(" + rank + ", " + what + ")", x.log(rank, what), facts[what]);
        }
    }

    private static void lines() {
        LampLatitudes x = Due.skilled();
        Due.due("log(0, 0)", x.log(0, 0), LampLatitudes.NO_SUCH);
        Due.due("log(0, 9)", x.log(0, 9), LampLatitudes.NO_SUCH);
        x.sail(3);
        Due.due("night()", x.night(), 1);
        line(x, 0, 0, 5412, LampLatitudes.NONE, 0);
        Due.due("log(1, 0)", x.log(1, 0), LampLatitudes.NO_SUCH);
        Due.due("log(-1, 0)", x.log(-1, 0), LampLatitudes.NO_SUCH);
        Due.due("log(0, 4)", x.log(0, 4), LampLatitudes.BAD_VALUE);
        Due.due("log(0, -1)", x.log(0, -1), LampLatitudes.BAD_VALUE);
        x.set(LampLatitudes.DRIFT, -4);
        x.sail(3);
        x.set(LampLatitudes.QUARREL, 10);
        for (int time = 0; time < 2; time++) {
            Due.estimate(x, 0, 11);
            Due.estimate(x, 1, 0);
            Due.estimate(x, 2, -11);
            Due.due("agree()", x.agree(), 5400);
        }
        Due.due("night()", x.night(), 2);
        line(x, 0, 1, 5400, 5400, 4);
        line(x, 1, 0, 5412, LampLatitudes.NONE, 0);
        Due.due("count(7), a new night", x.count(7), 0);
        Due.due("night()", x.night(), 3);
        line(x, 0, 2, 5400, 5400, 0);
    }

    private static void latestLines() {
        LampLatitudes x = new LampLatitudes();
        for (int night = 0; night < 12; night++) {
            x.sail(1);
            Due.due("night()", x.night(), night + 1);
            Due.due("count(4)", x.count(4), night + 1);
            int lines = Math.min(8, night + 1);
            for (int rank = 0; rank < lines; rank++) {
                line(x, rank, night - rank, 5400 + 4 * (night - rank + 1), LampLatitudes.NONE, 0);
            }
            Due.due("log(" + lines + ", 0)", x.log(lines, 0), LampLatitudes.NO_SUCH);
        }
        for (int time = 0; time < 6; time++) {
            x.undo();
        }
        for (int rank = 0; rank < 8; rank++) {
            line(x, rank, 8 - rank, 5400 + 4 * (9 - rank), LampLatitudes.NONE, 0);
        }
    }

    private static void whatANightEnds() {
        LampLatitudes x = Due.skilled();
        x.set(LampLatitudes.QUARREL, 10);
        for (int time = 0; time < 3; time++) {
            Due.estimate(x, 0, 0);
            Due.estimate(x, 1, 0);
            Due.estimate(x, 4, 0);
            Due.estimate(x, 2, 20);
            Due.estimate(x, 3, time == 0 ? 0 : 20);
            x.agree();
        }
        Due.estimate(x, 0, 5);
        Due.estimate(x, 1, 6);
        x.sleep(0);
        Due.due("count(9)", x.count(9), 4);
        Due.due("of(3, 3)", x.of(3, 3), 2);
        x.night();
        Due.due("of(2, 6), awake again", x.of(2, 6), 0);
        Due.due("of(2, 3), calm again", x.of(2, 3), 0);
        Due.due("of(3, 3), stays", x.of(3, 3), 2);
        Due.due("of(0, 6), still asleep", x.of(0, 6), 1);
        Due.due("count(8), no estimates", x.count(8), 0);
        Due.due("count(9)", x.count(9), 0);
        Due.due("count(7)", x.count(7), 0);
        Due.due("count(6), stays", x.count(6), 3);
        Due.due("count(1), stays", x.count(1), 5400);
        Due.due("log(0, 3)", x.log(0, 3), 5);
        Due.estimate(x, 2, 20);
    }

    private static void mostNights() {
        LampLatitudes x = new LampLatitudes();
        StringBuilder forty = new StringBuilder("n");
        for (int more = 1; more < 40; more++) {
            forty.append(";n");
        }
        for (int time = 0; time < 24; time++) {
            Due.due("carryOut() of 40 nights", Due.carryOut(x, forty.toString()), 40);
        }
        Due.due("carryOut(), the last nights", Due.carryOut(x, forty.toString()), 39);
        Due.due("count(4)", x.count(4), 999);
        Due.due("night()", x.night(), LampLatitudes.NOT_POSSIBLE);
        Due.due("log(0, 0)", x.log(0, 0), 998);
        Due.due("log(7, 0)", x.log(7, 0), 991);
        x.undo();
        Due.due("count(4)", x.count(4), 960);
        Due.due("log(7, 0)", x.log(7, 0), 952);
    }
}

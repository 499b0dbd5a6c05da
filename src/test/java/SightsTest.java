/** Promises 8, 16 and 17: sight, why and ifSighted. */
public final class SightsTest {
    public static void main(String[] args) {
        reasons();
        lowStars();
        estimates();
        polesAreTheEnd();
        sightsAreCounted();
        Due.end();
    }

    private static void due(LampLatitudes x, int navigator, int star, int reason, int answer) {
        String at = "(" + navigator + ", " + star + ")";
        Due.due("why" + at, x.why(navigator, star), reason);
        int sights = x.count(5);
        int estimates = x.count(8);
        Due.due("ifSighted" + at, x.ifSighted(navigator, star), answer);
        Due.due("count(5) after ifSighted" + at, x.count(5), sights);
        Due.due("count(8) after ifSighted" + at, x.count(8), estimates);
        Due.due("sight" + at, x.sight(navigator, star), answer);
    }

    private static void reasons() {
        LampLatitudes x = Due.skilled();
        due(x, 0, 1, LampLatitudes.NO_SUCH, LampLatitudes.NO_SUCH);
        due(x, 0, -1, LampLatitudes.NO_SUCH, LampLatitudes.NO_SUCH);
        due(x, 7, 0, LampLatitudes.NO_SUCH, LampLatitudes.NO_SUCH);
        due(x, -1, 0, LampLatitudes.NO_SUCH, LampLatitudes.NO_SUCH);
        due(x, 4, 0, 0, 5400);
        makeSulk(x, 6);
        x.star(5300);
        due(x, 5, 1, 4, LampLatitudes.NOT_POSSIBLE);
        due(x, 6, 1, 2, LampLatitudes.NOT_POSSIBLE);
        x.cloud(1);
        due(x, 5, 1, 3, LampLatitudes.NOT_POSSIBLE);
        due(x, 6, 1, 2, LampLatitudes.NOT_POSSIBLE);
        x.cloud(0);
        due(x, 5, 0, 3, LampLatitudes.NOT_POSSIBLE);
        x.sleep(5);
        due(x, 5, 1, 1, LampLatitudes.NOT_POSSIBLE);
        due(x, 5, 0, 1, LampLatitudes.NOT_POSSIBLE);
        x.cloud(0);
        due(x, 5, 0, 1, LampLatitudes.NOT_POSSIBLE);
        due(x, 6, 0, 2, LampLatitudes.NOT_POSSIBLE);
        x.sleep(5);
        due(x, 5, 0, 0, 5400);
    }

    private static void makeSulk(LampLatitudes x, int navigator) {
        x.set(LampLatitudes.QUARREL, 1);
        for (int time = 0; time < 3; time++) {
            Due.estimate(x, 0, 0);
            Due.estimate(x, 1, 0);
            Due.estimate(x, navigator, 50);
            x.agree();
        }
        Due.due("of(.., 6)", x.of(navigator, 6), 2);
    }

    private static void lowStars() {
        LampLatitudes x = new LampLatitudes();
        x.star(5100);
        x.star(-5101);
        Due.due("why(0, 0), as high as LOW", x.why(0, 0), 0);
        Due.due("why(0, 1), lower by 1", x.why(0, 1), 4);
        x.sail(1);
        Due.due("why(0, 0), the raft has drifted", x.why(0, 0), 0);
        Due.due("why(0, 1), the raft has drifted", x.why(0, 1), 4);
        x.set(LampLatitudes.LOW, 295);
        Due.due("why(0, 1), LOW at its height", x.why(0, 1), 0);
        x.set(LampLatitudes.LOW, 305);
        Due.due("why(0, 0), LOW above its height", x.why(0, 0), 4);
    }

    private static void estimates() {
        LampLatitudes x = Due.skilled();
        x.star(1000);
        x.star(-2000);
        due(x, 0, 1, 0, 5400 + 2000);
        due(x, 0, 2, 0, 5400);
        x.navigator(0, 2, 0);
        due(x, 0, 1, 0, 5400);
        due(x, 0, 2, 0, 5400 - 4000);
        x.navigator(0, 1, -13);
        due(x, 0, 1, 0, 5400 - 13);
        x.navigator(0, 1, 13);
        due(x, 0, 1, 0, 5400 + 13);
        due(x, 0, 0, 0, 5400 - 13);
        x.navigator(0, 2, 1);
        due(x, 0, 0, 0, 5400 + 13);
        Due.due("of(0, 5), in place of the others", x.of(0, 5), 5413);
        Due.due("count(8)", x.count(8), 1);
        x.navigator(0, 1, 0);
        x.sail(10);
        due(x, 0, 0, 0, 5440);
        due(x, 3, 1, 0, 5400 + 1960);
        Due.due("count(8)", x.count(8), 9);
    }

    private static void polesAreTheEnd() {
        LampLatitudes x = Due.skilled();
        x.set(LampLatitudes.LOW, 0);
        x.star(5400);
        x.star(-5400);
        x.star(2700);
        x.star(2701);
        due(x, 0, 1, 0, 10800);
        due(x, 0, 2, 0, 5400);
        due(x, 0, 3, 0, 10800);
        due(x, 0, 4, 0, 10800);
        x.navigator(0, 1, 1);
        due(x, 0, 3, 0, 10799);
        x.navigator(0, 2, 0);
        due(x, 0, 2, 0, 0);
        Due.due("of(0, 5), at the pole", x.of(0, 5), 0);
        Due.due("of(0, 4)", x.of(0, 4), 6);
        due(x, 0, 1, 0, 5401);
    }

    private static void sightsAreCounted() {
        LampLatitudes x = new LampLatitudes();
        x.star(0);
        int[] estimates = {5404, 5420, 5408, 5408, 5420};
        for (int estimate : estimates) {
            due(x, 5, 0, 0, estimate);
        }
        Due.due("of(5, 4)", x.of(5, 4), 5);
        Due.due("count(5)", x.count(5), 5);
        x.sight(6, 0);
        x.night();
        Due.due("of(5, 4), after a night", x.of(5, 4), 5);
        Due.due("of(6, 4)", x.of(6, 4), 1);
        Due.due("count(5), of all", x.count(5), 6);
        Due.due("count(16)", x.count(16), 6);
    }
}

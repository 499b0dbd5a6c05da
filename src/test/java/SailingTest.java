/** Promises 10 and 21: sail and arrivesIn. */
public final class SailingTest {
    public static void main(String[] args) {
        ranges();
        driftAlone();
        steering();
        polesAreTheEnd();
        mostHours();
        arrivals();
        Due.end();
    }

    /** A raft that believes to be at a latitude of -60 to 60, and is at 0. */
    private static LampLatitudes believing(int latitude) {
        LampLatitudes x = Due.skilled();
        for (int navigator = 0; navigator < 3; navigator++) {
            Due.estimate(x, navigator, latitude);
        }
        Due.due("agree()", x.agree(), latitude + 5400);
        return x;
    }

    private static void due(LampLatitudes x, int hours, int latitude, int belief) {
        Due.due("sail(" + hours + ")", x.sail(hours), latitude + 5400);
        Due.due("count(0)", x.count(0), latitude + 5400);
        Due.due("count(1)", x.count(1), belief + 5400);
        Due.due("count(10)", x.count(10), Math.abs(latitude - belief));
    }

    private static void ranges() {
        LampLatitudes x = new LampLatitudes();
        int[] wrong = {0, -1, 100, Integer.MIN_VALUE, Integer.MAX_VALUE};
        for (int hours : wrong) {
            Due.due("sail(" + hours + ")", x.sail(hours), LampLatitudes.BAD_VALUE);
        }
        Due.due("count(3)", x.count(3), 0);
        Due.due("count(16)", x.count(16), 0);
        Due.due("sail(1)", x.sail(1), 5404);
        Due.due("sail(99)", x.sail(99), 5800);
        Due.due("count(3)", x.count(3), 100);
        Due.due("count(16)", x.count(16), 2);
    }

    private static void driftAlone() {
        LampLatitudes x = new LampLatitudes();
        x.goal(-300);
        Due.due("sail(5), nothing believed", x.sail(5), 5420);
        Due.due("count(1)", x.count(1), LampLatitudes.NONE);
        Due.due("count(10)", x.count(10), LampLatitudes.NONE);
        x.set(LampLatitudes.DRIFT, -30);
        Due.due("sail(2)", x.sail(2), 5360);
        x.set(LampLatitudes.DRIFT, 0);
        Due.due("sail(2)", x.sail(2), 5360);
    }

    private static void steering() {
        LampLatitudes x = believing(20);
        x.goal(3);
        due(x, 1, -6 + 4, 14);
        due(x, 1, -12 + 8, 8);
        due(x, 1, -17 + 12, 3);
        due(x, 1, -17 + 16, 3);
        x.goal(50);
        due(x, 2, -17 + 12 + 24, 15);
        x.set(LampLatitudes.PULL, 0);
        due(x, 1, 23, 15);
        x.set(LampLatitudes.PULL, 30);
        x.set(LampLatitudes.DRIFT, -2);
        due(x, 3, 23 + 35 - 6, 50);
    }

    private static void polesAreTheEnd() {
        LampLatitudes x = believing(-60);
        x.goal(5400);
        x.set(LampLatitudes.PULL, 30);
        x.set(LampLatitudes.DRIFT, 30);
        due(x, 89, 5340, -60 + 89 * 30);
        due(x, 1, 5400, -60 + 90 * 30);
        due(x, 1, 5400, -60 + 91 * 30);
        x.set(LampLatitudes.DRIFT, -4);
        due(x, 1, 5396, -60 + 92 * 30);
        due(x, 1, 5396, -60 + 93 * 30);
        LampLatitudes south = new LampLatitudes();
        south.set(LampLatitudes.DRIFT, -30);
        south.sail(99);
        Due.due("sail(80)", south.sail(80), 30);
        Due.due("sail(1)", south.sail(1), 0);
        Due.due("sail(1)", south.sail(1), 0);
        Due.due("count(3)", south.count(3), 181);
    }

    private static void mostHours() {
        LampLatitudes x = new LampLatitudes();
        x.set(LampLatitudes.DRIFT, 0);
        for (int time = 0; time < 100; time++) {
            Due.due("sail(99)", x.sail(99), 5400);
        }
        Due.due("count(3)", x.count(3), 9900);
        Due.due("sail(98)", x.sail(98), 5400);
        Due.due("sail(2)", x.sail(2), LampLatitudes.NOT_POSSIBLE);
        Due.due("sail(100)", x.sail(100), LampLatitudes.BAD_VALUE);
        Due.due("count(3)", x.count(3), 9998);
        Due.due("sail(1)", x.sail(1), 5400);
        Due.due("sail(1)", x.sail(1), LampLatitudes.NOT_POSSIBLE);
        Due.due("count(3)", x.count(3), 9999);
        x.goal(100);
        x.set(LampLatitudes.DRIFT, 10);
        Due.due("arrivesIn(0), asks only where it would be", x.arrivesIn(0), 10);
    }

    private static void arrivals() {
        LampLatitudes x = new LampLatitudes();
        Due.due("arrivesIn(-1)", x.arrivesIn(-1), LampLatitudes.BAD_VALUE);
        Due.due("arrivesIn(1000)", x.arrivesIn(1000), LampLatitudes.BAD_VALUE);
        Due.due("arrivesIn(0), at the goal", x.arrivesIn(0), 0);
        x.goal(2000);
        String before = Due.portraitOfAll(x);
        Due.due("arrivesIn(0), within 500", x.arrivesIn(0), 500);
        Due.due("portrait after arrivesIn()", Due.portraitOfAll(x), before);
        x.goal(2001);
        Due.due("arrivesIn(0), not within 500", x.arrivesIn(0), LampLatitudes.NONE);
        Due.due("arrivesIn(1)", x.arrivesIn(1), 500);
        Due.due("arrivesIn(999)", x.arrivesIn(999), 251);
        x.goal(2004);
        Due.due("arrivesIn(0), within 501", x.arrivesIn(0), LampLatitudes.NONE);
        x.goal(-999);
        Due.due("arrivesIn(999), south of the raft", x.arrivesIn(999), 0);
        Due.due("arrivesIn(998)", x.arrivesIn(998), LampLatitudes.NONE);
        x.goal(6);
        Due.due("arrivesIn(1), drifts past", x.arrivesIn(1), LampLatitudes.NONE);
        Due.due("arrivesIn(2)", x.arrivesIn(2), 1);
        LampLatitudes steered = believing(-10);
        steered.goal(100);
        Due.due("arrivesIn(5), steered", steered.arrivesIn(5), 10);
        steered.set(LampLatitudes.DRIFT, 0);
        Due.due("arrivesIn(5), steered alone", steered.arrivesIn(5), 16);
        Due.due("arrivesIn(0)", steered.arrivesIn(0), LampLatitudes.NONE);
        Due.due("arrivesIn(10)", steered.arrivesIn(10), 15);
    }
}

/** Promise 15: count. */
public final class CountsTest {
    public static void main(String[] args) {
        LampLatitudes x = Due.skilled();
        x.set(LampLatitudes.DRIFT, -30);
        x.set(LampLatitudes.PULL, 11);
        x.set(LampLatitudes.QUARREL, 9);
        x.set(LampLatitudes.LOW, 77);
        x.goal(-5400);
        for (int time = 0; time < 3; time++) {
            Due.estimate(x, 0, 0);
            Due.estimate(x, 3, 1);
            Due.estimate(x, 5, 60);
            Due.due("agree()", x.agree(), 5401);
        }
        Due.estimate(x, 6, 2);
        Due.estimate(x, 1, 2);
        x.put(Due.packed("abc"));
        long[] before = {5400, 5401, 0, 0, 0, 11, 3, 3, 66, 32, 1, 0, 11, 9, 77, 3, 6};
        due(x, before);
        x.sail(2);
        x.night();
        long[] after = {5400 - 82, 5401 - 22, 0, 2, 1, 11, 3, 0, 0, 0, 61, 0, 11, 9, 77, 3, 6};
        due(x, after);
        int[] wrong = {-1, 17, -6, Integer.MIN_VALUE, Integer.MAX_VALUE};
        for (int what : wrong) {
            Due.due("count(" + what + ")", x.count(what), LampLatitudes.BAD_VALUE);
        }
        x.wipe();
        x.undo();
        Due.due("count(15)", x.count(15), 0);
        Due.due("count(16)", x.count(16), 5);
        Due.end();
    }

    private static void due(LampLatitudes x, long[] counts) {
        for (int what = 0; what < counts.length; what++) {
            Due.due("count(" + what + ")", x.count(what), counts[what]);
        }
    }
}

/** Promise 2: set, and what the settings do at their ends; promise 7: goal. */
public final class SettingsTest {
    public static void main(String[] args) {
        range(LampLatitudes.DRIFT, -30, 30, 4, 30);
        range(LampLatitudes.PULL, 0, 30, 6, 0);
        range(LampLatitudes.QUARREL, 1, 999, 60, 0);
        range(LampLatitudes.LOW, 0, 1800, 300, 0);
        LampLatitudes x = new LampLatitudes();
        int[] wrong = {-1, 4, Integer.MIN_VALUE, Integer.MAX_VALUE};
        for (int setting : wrong) {
            Due.due("set(" + setting + ", 1)", x.set(setting, 1), LampLatitudes.BAD_VALUE);
        }
        Due.due("count(16)", x.count(16), 0);
        goal();
        Due.end();
    }

    private static void range(int setting, int least, int most, int first, int offset) {
        LampLatitudes x = new LampLatitudes();
        String call = "set(" + setting + ", ..)";
        Due.due(call, x.set(setting, least - 1), LampLatitudes.BAD_VALUE);
        Due.due(call, x.set(setting, most + 1), LampLatitudes.BAD_VALUE);
        Due.due(call, x.set(setting, Integer.MIN_VALUE), LampLatitudes.BAD_VALUE);
        Due.due(call, x.set(setting, Integer.MAX_VALUE), LampLatitudes.BAD_VALUE);
        Due.due("count of " + setting, x.count(11 + setting), first + offset);
        Due.due(call, x.set(setting, least), first + 30);
        Due.due("count of " + setting, x.count(11 + setting), least + offset);
        Due.due(call, x.set(setting, most), least + 30);
        Due.due("count of " + setting, x.count(11 + setting), most + offset);
        Due.due(call, x.set(setting, most), most + 30);
        Due.due("count(16)", x.count(16), 3);
    }

    private static void goal() {
        LampLatitudes x = new LampLatitudes();
        Due.due("goal(5401)", x.goal(5401), LampLatitudes.BAD_VALUE);
        Due.due("goal(-5401)", x.goal(-5401), LampLatitudes.BAD_VALUE);
        Due.due("goal(min)", x.goal(Integer.MIN_VALUE), LampLatitudes.BAD_VALUE);
        Due.due("goal(5400)", x.goal(5400), 5400);
        Due.due("count(2)", x.count(2), 10800);
        Due.due("goal(-5400)", x.goal(-5400), 10800);
        Due.due("count(2)", x.count(2), 0);
        Due.due("goal(7)", x.goal(7), 0);
        Due.due("goal(7)", x.goal(7), 5407);
        Due.due("count(16)", x.count(16), 4);
    }
}

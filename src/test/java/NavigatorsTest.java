/** Promises 5, 6 and 12: navigator, sleep and of. */
public final class NavigatorsTest {
    public static void main(String[] args) {
        trait(0, 0, 9, 5, 0);
        trait(1, -60, 60, 0, 60);
        trait(2, 0, 1, 1, 0);
        wrongTraits();
        sleepers();
        facts();
        Due.end();
    }

    private static void trait(int what, int least, int most, int first, int offset) {
        LampLatitudes x = new LampLatitudes();
        for (int navigator = 0; navigator < 7; navigator++) {
            String call = "navigator(" + navigator + ", " + what + ", ..)";
            String fact = "of(" + navigator + ", " + what + ")";
            Due.due(call, x.navigator(navigator, what, least - 1), LampLatitudes.BAD_VALUE);
            Due.due(call, x.navigator(navigator, what, most + 1), LampLatitudes.BAD_VALUE);
            Due.due(call, x.navigator(navigator, what, Integer.MIN_VALUE), LampLatitudes.BAD_VALUE);
            Due.due(fact, x.of(navigator, what), first + offset);
            Due.due(call, x.navigator(navigator, what, least), first + 60);
            Due.due(fact, x.of(navigator, what), least + offset);
            Due.due(call, x.navigator(navigator, what, most), least + 60);
            Due.due(fact, x.of(navigator, what), most + offset);
            if (navigator < 6) {
                Due.due("of the next one", x.of(navigator + 1, what), first + offset);
            }
        }
    }

    private static void wrongTraits() {
        LampLatitudes x = new LampLatitudes();
        Due.due("navigator(-1, 0, 0)", x.navigator(-1, 0, 0), LampLatitudes.NO_SUCH);
        Due.due("navigator(7, 9, 0)", x.navigator(7, 9, 0), LampLatitudes.NO_SUCH);
        Due.due("navigator(-6, 0, 0)", x.navigator(-6, 0, 0), LampLatitudes.NO_SUCH);
        Due.due("navigator(0, 3, 0)", x.navigator(0, 3, 0), LampLatitudes.BAD_VALUE);
        Due.due("navigator(0, -1, 0)", x.navigator(0, -1, 0), LampLatitudes.BAD_VALUE);
        Due.due("count(16)", x.count(16), 0);
    }

    private static void sleepers() {
        LampLatitudes x = Due.skilled();
        Due.due("sleep(-1)", x.sleep(-1), LampLatitudes.NO_SUCH);
        Due.due("sleep(7)", x.sleep(7), LampLatitudes.NO_SUCH);
        Due.due("sleep(6)", x.sleep(6), 1);
        Due.due("of(6, 6)", x.of(6, 6), 1);
        Due.due("of(5, 6)", x.of(5, 6), 0);
        Due.due("sleep(6)", x.sleep(6), 0);
        Due.due("of(6, 6)", x.of(6, 6), 0);
        x.set(LampLatitudes.QUARREL, 1);
        for (int time = 0; time < 3; time++) {
            Due.estimate(x, 0, 0);
            Due.estimate(x, 1, 0);
            Due.estimate(x, 6, 50);
            x.agree();
        }
        Due.due("of(6, 6), sulking", x.of(6, 6), 2);
        Due.due("sleep(6), sulking", x.sleep(6), LampLatitudes.NOT_POSSIBLE);
        Due.due("of(6, 6), still sulking", x.of(6, 6), 2);
    }

    private static void facts() {
        LampLatitudes x = new LampLatitudes();
        x.star(0);
        x.navigator(2, 0, 3);
        x.navigator(2, 1, -11);
        Due.due("of(2, 7)", x.of(2, 7), 999 - 11 + 6);
        Due.due("sight(2, 0)", x.sight(2, 0), 5405);
        Due.due("of(2, 4)", x.of(2, 4), 1);
        Due.due("of(2, 5)", x.of(2, 5), 5405);
        Due.due("of(2, 7), after a sight", x.of(2, 7), 999 - 11 - 18);
        x.navigator(2, 0, 0);
        x.navigator(2, 1, 60);
        x.sight(2, 0);
        Due.due("of(2, 7), after two", x.of(2, 7), 999 + 60 + 9 * 4);
        x.sight(2, 0);
        Due.due("of(2, 7), after three", x.of(2, 7), 999 + 60);
        x.sight(2, 0);
        Due.due("of(2, 7), after four", x.of(2, 7), 999 + 60 - 36);
        Due.due("of(2, 8)", x.of(2, 8), LampLatitudes.BAD_VALUE);
        Due.due("of(2, -1)", x.of(2, -1), LampLatitudes.BAD_VALUE);
        Due.due("of(7, 8)", x.of(7, 8), LampLatitudes.NO_SUCH);
        Due.due("of(-1, 0)", x.of(-1, 0), LampLatitudes.NO_SUCH);
    }
}

/** Promise 25: carryOut. */
public final class CarryOutTest {
    public static void main(String[] args) {
        eachOrder();
        sameAsTheCalls();
        upToTheFirstError();
        faultyPads();
        onlyOneChange();
        Due.end();
    }

    private static void eachOrder() {
        LampLatitudes x = new LampLatitudes();
        Due.due("carryOut(*)", Due.carryOut(x, "*+12;*-34;*+5400;*-0"), 4);
        int[] declinations = {5412, 5366, 10800, 5400};
        for (int star = 0; star < 4; star++) {
            Due.due("ofStar(" + star + ", 0)", x.ofStar(star, 0), declinations[star]);
        }
        Due.due("carryOut(c)", Due.carryOut(x, "c1;c2;c1"), 3);
        Due.due("ofStar(1, 1)", x.ofStar(1, 1), 0);
        Due.due("ofStar(2, 1)", x.ofStar(2, 1), 1);
        Due.due("carryOut(z)", Due.carryOut(x, "z6;z3;z6"), 3);
        Due.due("of(6, 6)", x.of(6, 6), 0);
        Due.due("of(3, 6)", x.of(3, 6), 1);
        Due.due("carryOut(o)", Due.carryOut(x, "o60;o13"), 2);
        Due.due("of(6, 4)", x.of(6, 4), 1);
        Due.due("of(1, 5)", x.of(1, 5), 5408);
        Due.due("carryOut(g)", Due.carryOut(x, "g-77"), 1);
        Due.due("count(2)", x.count(2), 5323);
        Due.due("carryOut(g)", Due.carryOut(x, "g+5400"), 1);
        Due.due("count(2)", x.count(2), 10800);
        Due.due("carryOut(m)", Due.carryOut(x, "o03;m"), 2);
        Due.due("count(6)", x.count(6), 1);
        Due.due("carryOut(s)", Due.carryOut(x, "s99;s1"), 2);
        Due.due("count(3)", x.count(3), 100);
        Due.due("carryOut(n)", Due.carryOut(x, "n;n"), 2);
        Due.due("count(4)", x.count(4), 2);
        Due.due("count(15)", x.count(15), 0);
    }

    private static void sameAsTheCalls() {
        LampLatitudes x = new LampLatitudes();
        LampLatitudes y = new LampLatitudes();
        Due.due("carryOut()", Due.carryOut(x, "*+600;*-900;o00;o11;o20;z4;o31;m;g+321;s17;n;c1;o50"), 13);
        y.star(600);
        y.star(-900);
        y.sight(0, 0);
        y.sight(1, 1);
        y.sight(2, 0);
        y.sleep(4);
        y.sight(3, 1);
        y.agree();
        y.goal(321);
        y.sail(17);
        y.night();
        y.cloud(1);
        y.sight(5, 0);
        Due.due("portrait", Due.portrait(x), Due.portrait(y));
        Due.due("count(16)", x.count(16), 1);
        x.undo();
        Due.due("portrait after undo()", Due.portrait(x), Due.portrait(new LampLatitudes()));
    }

    private static void upToTheFirstError() {
        String[] wrong = {"*+5401", "*-9999", "c1", "c9", "o10", "o70", "o01", "m", "s0", "s100", "s9999", "z7", "z9", "g+5401"};
        for (String order : wrong) {
            LampLatitudes x = new LampLatitudes();
            LampLatitudes y = new LampLatitudes();
            Due.due("carryOut() with " + order, Due.carryOut(x, "*+7;c0;s3;" + order + ";n;s2"), 3);
            y.star(7);
            y.cloud(0);
            y.sail(3);
            Due.due("portrait with " + order, Due.portrait(x), Due.portrait(y));
            Due.due("count(15)", x.count(15), 0);
            Due.due("count(16)", x.count(16), 1);
            Due.due("carryOut() of " + order, Due.carryOut(x, order + ";n"), 0);
            Due.due("portrait with " + order, Due.portrait(x), Due.portrait(y));
            Due.due("count(15)", x.count(15), 0);
            Due.due("count(16)", x.count(16), 2);
        }
    }

    private static void faultyPads() {
        LampLatitudes x = new LampLatitudes();
        String before = Due.portrait(x);
        Due.due("carryOut(), empty", x.carryOut(), LampLatitudes.BAD_TEXT);
        Due.due("carryOut()", Due.carryOut(x, "n;n;"), LampLatitudes.BAD_TEXT);
        Due.due("count(15)", x.count(15), 4);
        Due.due("count(16)", x.count(16), 0);
        Due.due("portrait", Due.portrait(x), before);
        x.put('n');
        Due.due("carryOut(), completed", x.carryOut(), 3);
        Due.due("count(15)", x.count(15), 0);
        Due.due("carryOut(), emptied", x.carryOut(), LampLatitudes.BAD_TEXT);
        Due.due("count(16)", x.count(16), 1);
    }

    private static void onlyOneChange() {
        LampLatitudes x = new LampLatitudes();
        x.star(1);
        String before = Due.portrait(x);
        StringBuilder forty = new StringBuilder("z0");
        for (int more = 1; more < 27; more++) {
            forty.append(";z").append(more % 7);
        }
        Due.due("carryOut() of 27", Due.carryOut(x, forty.toString()), 27);
        Due.due("count(16)", x.count(16), 2);
        x.put('m');
        Due.due("undo()", x.undo(), 1);
        Due.due("portrait", Due.portrait(x), before);
        Due.due("count(15), the pad is not undone", x.count(15), 1);
        Due.due("fault()", x.fault(), LampLatitudes.NONE);
    }
}

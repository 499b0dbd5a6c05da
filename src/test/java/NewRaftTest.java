/** Promise 1: a new object; and the first values of all that there is. */
public final class NewRaftTest {
    public static void main(String[] args) {
        LampLatitudes x = new LampLatitudes();
        long[] counts = {5400, -6, 5400, 0, 0, 0, 0, 0, 0, 0, -6, 34, 6, 60, 300, 0, 0};
        for (int what = 0; what < counts.length; what++) {
            Due.due("count(" + what + ")", x.count(what), counts[what]);
        }
        long[] errors = {979, 991, 1003, 1015, 983, 995, 1007};
        for (int navigator = 0; navigator < 7; navigator++) {
            long[] facts = {5, 60, 1, 0, 0, -6, 0, errors[navigator]};
            for (int what = 0; what < facts.length; what++) {
                Due.due("of(" + navigator + ", " + what + ")", x.of(navigator, what), facts[what]);
            }
        }
        Due.due("ofStar(0, 0)", x.ofStar(0, 0), LampLatitudes.NO_SUCH);
        Due.due("log(0, 0)", x.log(0, 0), LampLatitudes.NO_SUCH);
        Due.due("fault()", x.fault(), 0);
        Due.due("undo()", x.undo(), LampLatitudes.NOT_POSSIBLE);
        Due.due("restore(0)", x.restore(0), LampLatitudes.NOT_POSSIBLE);
        Due.due("restore(1)", x.restore(1), LampLatitudes.NOT_POSSIBLE);
        objectsShareNothing();
        Due.end();
    }

    private static void objectsShareNothing() {
        LampLatitudes one = new LampLatitudes();
        String before = Due.portraitOfAll(new LampLatitudes());
        LampLatitudes other = new LampLatitudes();
        one.set(LampLatitudes.DRIFT, -7);
        one.navigator(3, 1, 22);
        one.star(7);
        one.sight(0, 0);
        one.sail(9);
        one.night();
        one.save(0);
        one.put('x');
        Due.due("portrait of the other one", Due.portraitOfAll(other), before);
        Due.due("restore(0) of the other one", other.restore(0), LampLatitudes.NOT_POSSIBLE);
        Due.due("portrait of a third one", Due.portraitOfAll(new LampLatitudes()), before);
    }
}

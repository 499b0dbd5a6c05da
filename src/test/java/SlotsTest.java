/** Promises 27 and 28: save and restore. */
public final class SlotsTest {
    public static void main(String[] args) {
        wrongSlots();
        LampLatitudes x = new LampLatitudes();
        x.star(50);
        x.star(60);
        x.sight(3, 1);
        x.sail(4);
        x.night();
        x.sight(2, 0);
        String first = Due.counts(x);
        Due.due("save(0)", x.save(0), 2);
        Due.due("restore(1), nothing saved", x.restore(1), LampLatitudes.NOT_POSSIBLE);
        x.star(70);
        x.sail(4);
        x.set(LampLatitudes.LOW, 3);
        x.navigator(1, 1, 1);
        x.night();
        String second = Due.counts(x);
        Due.due("save(1)", x.save(1), 3);
        Due.due("count(16), saving is no change", x.count(16), 6);
        x.undo();
        x.undo();
        x.put('m');
        Due.due("restore(0)", x.restore(0), 2);
        Due.due("counts of slot 0", Due.counts(x), first);
        Due.due("count(15), the pad stays", x.count(15), 1);
        Due.due("count(16), restoring is a change", x.count(16), 5);
        x.star(80);
        Due.due("restore(1)", x.restore(1), 3);
        Due.due("counts of slot 1", Due.counts(x), second);
        Due.due("restore(0), kept", x.restore(0), 2);
        Due.due("counts of slot 0", Due.counts(x), first);
        Due.due("undo()", x.undo(), 5);
        Due.due("counts after undo()", Due.counts(x), second);
        Due.due("save(0), in place of the first", x.save(0), 3);
        x.cloud(0);
        Due.due("restore(0)", x.restore(0), 3);
        Due.due("counts of slot 0", Due.counts(x), second);
        LampLatitudes none = new LampLatitudes();
        Due.due("save(0), no stars", none.save(0), 0);
        none.star(0);
        Due.due("restore(0), no stars", none.restore(0), 0);
        Due.due("portrait", Due.portrait(none), Due.portrait(new LampLatitudes()));
        Due.due("undo()", none.undo(), 1);
        Due.end();
    }

    private static void wrongSlots() {
        LampLatitudes x = new LampLatitudes();
        int[] wrong = {-1, 2, -6, Integer.MIN_VALUE, Integer.MAX_VALUE};
        for (int slot : wrong) {
            Due.due("save(" + slot + ")", x.save(slot), LampLatitudes.BAD_VALUE);
            Due.due("restore(" + slot + ")", x.restore(slot), LampLatitudes.BAD_VALUE);
        }
        Due.due("restore(0)", x.restore(0), LampLatitudes.NOT_POSSIBLE);
        Due.due("restore(1)", x.restore(1), LampLatitudes.NOT_POSSIBLE);
        Due.due("count(16)", x.count(16), 0);
    }
}

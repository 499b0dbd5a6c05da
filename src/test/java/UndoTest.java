/** Promise 26: undo, for each change; and that errors change nothing. */
public final class UndoTest {
    private static final int CHANGES = 14;

    public static void main(String[] args) {
        for (int change = 0; change < CHANGES; change++) {
            undoes(change);
        }
        sixStates();
        thoseThatChangeNothing();
        noChanges();
        errors();
        Due.end();
    }

    /** A raft on which each change can be made, and changes something. */
    private static LampLatitudes amidst() {
        LampLatitudes x = new LampLatitudes();
        x.set(LampLatitudes.QUARREL, 5);
        x.star(100);
        x.star(-200);
        for (int time = 0; time < 3; time++) {
            for (int navigator = 0; navigator < 5; navigator++) {
                x.sight(navigator, navigator % 2);
            }
            x.agree();
            x.sail(5);
        }
        x.save(0);
        x.night();
        for (int navigator = 0; navigator < 7; navigator++) {
            x.sight(navigator, navigator % 2);
        }
        return x;
    }

    private static int make(LampLatitudes x, int change) {
        switch (change) {
            case 0: return x.set(LampLatitudes.PULL, 21);
            case 1: return x.star(33);
            case 2: return x.cloud(1);
            case 3: return x.navigator(5, 1, -9);
            case 4: return x.sleep(4);
            case 5: return x.goal(900);
            case 6: return x.sight(2, 1);
            case 7: return x.agree();
            case 8: return x.sail(8);
            case 9: return x.night();
            case 10: return Due.carryOut(x, "m;s4;n");
            case 11: return x.navigator(6, 0, 9);
            case 12: return x.navigator(0, 2, 0);
            default: return x.restore(0);
        }
    }

    private static void undoes(int change) {
        LampLatitudes x = amidst();
        String before = Due.portrait(x);
        Due.due("change " + change + " answers no error", make(x, change) >= 0 ? 1 : 0, 1);
        Due.due("change " + change + " changes something", Due.portrait(x).equals(before) ? 0 : 1, 1);
        Due.due("count(16)", x.count(16), 6);
        Due.due("undo() of change " + change, x.undo(), 5);
        Due.due("portrait after undo() of change " + change, Due.portrait(x), before);
        Due.due("count(16)", x.count(16), 5);
    }

    private static void sixStates() {
        LampLatitudes x = new LampLatitudes();
        Due.due("undo()", x.undo(), LampLatitudes.NOT_POSSIBLE);
        String[] counts = new String[16];
        counts[0] = Due.counts(x);
        for (int hour = 1; hour <= 15; hour++) {
            x.sail(1);
            counts[hour] = Due.counts(x);
            Due.due("count(16)", x.count(16), Math.min(6, hour));
        }
        for (int left = 5; left >= 0; left--) {
            Due.due("undo()", x.undo(), left);
            Due.due("counts", Due.counts(x), counts[9 + left]);
        }
        Due.due("undo(), no more", x.undo(), LampLatitudes.NOT_POSSIBLE);
        Due.due("counts", Due.counts(x), counts[9]);
        x.sail(1);
        Due.due("counts", Due.counts(x), counts[10]);
        Due.due("undo()", x.undo(), 0);
        Due.due("counts", Due.counts(x), counts[9]);
    }

    private static void thoseThatChangeNothing() {
        LampLatitudes x = new LampLatitudes();
        x.set(LampLatitudes.PULL, 6);
        Due.due("count(16), the same setting", x.count(16), 1);
        x.navigator(0, 0, 5);
        Due.due("count(16), the same skill", x.count(16), 2);
        x.goal(0);
        Due.due("count(16), the same goal", x.count(16), 3);
        Due.carryOut(x, "m");
        Due.due("count(16), nothing carried out", x.count(16), 4);
        x.save(1);
        Due.due("count(16), saved", x.count(16), 4);
        x.restore(1);
        Due.due("count(16), restored", x.count(16), 5);
        Due.due("undo()", x.undo(), 4);
    }

    /** Neither questions nor texts nor slots are changes. */
    private static void noChanges() {
        LampLatitudes x = amidst();
        make(x, 0);
        String before = Due.portrait(x);
        x.put('n');
        x.save(1);
        x.fault();
        x.why(0, 0);
        x.ifSighted(0, 0);
        x.median(LampLatitudes.NONE);
        x.bestStar();
        x.nearest(0);
        x.arrivesIn(3);
        Due.due("portrait", Due.portrait(x), before);
        Due.due("count(16)", x.count(16), 6);
        Due.due("undo()", x.undo(), 5);
        Due.due("count(15)", x.count(15), 1);
        Due.due("wipe()", x.wipe(), 1);
        Due.due("count(16)", x.count(16), 5);
        Due.due("restore(1), the slots are not undone", x.restore(1), 2);
        Due.due("portrait", Due.portrait(x), before);
    }

    private static void errors() {
        LampLatitudes x = amidst();
        x.undo();
        x.put(Due.packed("n;"));
        String before = Due.portraitOfAll(x);
        int[] answers = {
            x.set(9, 9), x.set(0, 31), x.star(9999), x.cloud(2), x.navigator(7, 0, 0), x.navigator(0, 0, -1),
            x.navigator(0, 5, 0), x.sleep(7), x.goal(5401), x.sight(0, 2), x.sight(7, 0), x.sail(0), x.restore(1),
            x.restore(2), x.save(-1), x.carryOut(), x.put(0), x.of(9, 0), x.of(0, 9), x.ofStar(2, 0), x.ofStar(0, 9),
            x.log(1, 0), x.log(0, 9), x.count(17), x.why(7, 0), x.ifSighted(0, 2), x.median(-1), x.nearest(5),
            x.arrivesIn(1000),
        };
        for (int answer : answers) {
            Due.due("an error", answer < 0 && answer != LampLatitudes.NONE ? 1 : 0, 1);
        }
        Due.due("portrait after errors", Due.portraitOfAll(x), before);
        LampLatitudes y = new LampLatitudes();
        y.star(0);
        String empty = Due.portraitOfAll(y);
        Due.due("agree()", y.agree(), LampLatitudes.NOT_POSSIBLE);
        Due.due("portrait after agree()", Due.portraitOfAll(y), empty);
        Due.due("undo()", y.undo(), 0);
        Due.due("undo()", y.undo(), LampLatitudes.NOT_POSSIBLE);
    }
}

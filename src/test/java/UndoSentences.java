import java.util.function.ToIntFunction;

/** The sentences about undo and saved states: the promises 26 to 28. */
final class UndoSentences {
    private static final int[] NO_SLOTS = {-1, 2, 3, -2, Integer.MIN_VALUE, Integer.MAX_VALUE};

    private UndoSentences() {
    }

    static void run(Book book) {
        book.sentence("Promise 26", "Undoes the latest change: everything except the pad, the slots and the history is as it was"
            + " before it.", UndoSentences::everything);
        book.sentence("Promise 26", "A history of at most 6 states is kept", UndoSentences::atMostSix);
        book.sentence("Promise 26", "each method that is a change, and returns no error, records the state before it",
            UndoSentences::recorded);
        book.sentence("Promise 26", "(also if nothing is different then)", UndoSentences::nothingDifferent);
        book.sentence("Promise 26", "when one more is recorded, the oldest one is dropped", UndoSentences::oldestIsDropped);
        book.sentence("Promise 26", "An order of a text records nothing by itself.", UndoSentences::ordersRecordNothing);
        book.sentence("Promise 26", "Returns how many changes can be undone then", UndoSentences::howMany);
        book.sentence("Promise 26", "NOT_POSSIBLE if there is none", UndoSentences::nothingToUndo);
        book.sentence("Promise 27", "Saves everything except the pad, the history and the slots in a slot",
            UndoSentences::savesEverything);
        book.sentence("Promise 27", "and overwrites what was saved there.", UndoSentences::overwrites);
        book.sentence("Promise 27", "`slot`: 0 or 1", UndoSentences::twoSlots);
        book.sentence("Promise 27", "Returns how many stars there are", UndoSentences::howManyStars);
        book.sentence("Promise 27", "BAD_VALUE if there is no such slot", UndoSentences::noSuchSlotToSave);
        book.sentence("Promise 28", "Restores what was saved last in a slot", UndoSentences::restoresTheLast);
        book.sentence("Promise 28", "which keeps it", UndoSentences::keepsIt);
        book.sentence("Promise 28", "This is a change.", UndoSentences::restoreIsAChange);
        book.sentence("Promise 28", "`slot`: 0 or 1", UndoSentences::twoSlots);
        book.sentence("Promise 28", "Returns how many stars there are then", UndoSentences::howManyStarsThen);
        book.sentence("Promise 28", "BAD_VALUE if there is no such slot", UndoSentences::noSuchSlotToRestore);
        book.sentence("Promise 28", "NOT_POSSIBLE if nothing was saved in it", UndoSentences::nothingSaved);
    }

    /** One change of each part of the state; each is seen, and undone. */
    private static void everything() {
        for (int setting = 0; setting < 4; setting++) {
            int changed = setting;
            dueUndone("set(" + changed + ", 1)", x -> x.set(changed, 1));
        }
        for (int trait = 0; trait < 3; trait++) {
            int changed = trait;
            dueUndone("navigator(3, " + changed + ", 0)", x -> x.navigator(3, changed, changed == 1 ? 5 : 0));
        }
        dueUndone("star(9)", x -> x.star(9));
        dueUndone("cloud(0)", x -> x.cloud(0));
        dueUndone("cloud(3)", x -> x.cloud(3));
        dueUndone("sleep(0)", x -> x.sleep(0));
        dueUndone("sleep(4)", x -> x.sleep(4));
        dueUndone("goal(-1)", x -> x.goal(-1));
        dueUndone("sight(0, 0)", x -> x.sight(0, 1));
        dueUndone("agree()", LampLatitudes::agree);
        dueUndone("sail(1)", x -> x.sail(1));
        dueUndone("night()", LampLatitudes::night);
        dueUndone("carryOut()", LampLatitudes::carryOut);
        dueUndone("restore(0)", x -> x.restore(0));
        allOfItAtOnce();
        padAndSlotsStay();
    }

    /** What is undone is a state in which nothing is as it was before, each star and each line of the log. */
    private static void allOfItAtOnce() {
        LampLatitudes x = betweenTwoStates();
        x.restore(0);
        Due.due("undo() of restore(0)", x.undo(), 5);
        Due.due("the state after undo()", Due.portrait(x), Due.portrait(filled(2)));
    }

    /** A raft in a second state, with a first one in the slot 0. */
    private static LampLatitudes betweenTwoStates() {
        LampLatitudes x = new LampLatitudes();
        x.save(1);
        fill(x, 1);
        x.save(0);
        x.restore(1);
        fill(x, 2);
        return x;
    }

    private static LampLatitudes filled(int kind) {
        LampLatitudes x = new LampLatitudes();
        fill(x, kind);
        return x;
    }

    /** Fills a new raft with all that a state has: of another kind all of it is different. */
    private static void fill(LampLatitudes x, int kind) {
        for (int star = 0; star < 8; star++) {
            x.star(10 * star + kind);
        }
        for (int setting = 0; setting < 4; setting++) {
            x.set(setting, kind);
        }
        x.goal(kind * 1000);
        for (int navigator = 0; navigator < 7; navigator++) {
            x.navigator(navigator, 0, kind);
            x.navigator(navigator, 1, kind);
            x.navigator(navigator, 2, kind - 1);
            x.sight(navigator, navigator);
        }
        x.agree();
        for (int night = 0; night < 8; night++) {
            x.sail(1);
            x.night();
        }
        for (int navigator = 0; navigator < 7; navigator++) {
            x.sight(navigator, kind);
        }
        x.sail(kind);
        x.cloud(kind);
        x.sleep(kind);
    }

    private static void dueUndone(String call, ToIntFunction<LampLatitudes> change) {
        LampLatitudes x = Rafts.amidst();
        String before = Due.portrait(x);
        Due.due(call + " is no error", change.applyAsInt(x) >= 0 ? 1 : 0, 1);
        Due.due(call + " changes something", Due.portrait(x).equals(before) ? 0 : 1, 1);
        LampLatitudes y = Rafts.amidst();
        change.applyAsInt(y);
        Due.due("undo() of " + call, y.undo(), 5);
        Due.due("the state after undo() of " + call, Due.portrait(y), before);
    }

    private static void padAndSlotsStay() {
        LampLatitudes x = new LampLatitudes();
        x.star(5);
        x.put('n');
        x.save(0);
        x.star(6);
        x.put(';');
        x.save(1);
        x.undo();
        x.undo();
        Due.due("count(15), the pad stays", x.count(15), 2);
        Due.due("fault(), the pad stays", x.fault(), 2);
        Due.due("restore(1), the slots stay", x.restore(1), 2);
        Due.due("restore(0), the slots stay", x.restore(0), 1);
        Due.carryOut(x, "n");
        x.undo();
        Due.due("count(15), what was carried out does not come back", x.count(15), 0);
    }

    private static void atMostSix() {
        for (int changes = 0; changes <= 15; changes++) {
            LampLatitudes x = new LampLatitudes();
            for (int change = 1; change <= changes; change++) {
                x.goal(change);
            }
            int most = Math.min(6, changes);
            Due.due("count(16) after " + changes, x.count(16), most);
            for (int undone = 1; undone <= most; undone++) {
                Due.due("undo() " + undone + " after " + changes, x.undo(), most - undone);
                Due.due("count(2)", x.count(2), 5400 + changes - undone);
            }
            Due.due("undo(), once too often, after " + changes, x.undo(), LampLatitudes.NOT_POSSIBLE);
            Due.due("count(2)", x.count(2), 5400 + changes - most);
        }
    }

    private static void recorded() {
        Rafts.dueOneChange("set()", x -> x.set(LampLatitudes.LOW, 1800));
        Rafts.dueOneChange("star()", x -> x.star(-5400));
        Rafts.dueOneChange("cloud()", x -> x.cloud(5));
        Rafts.dueOneChange("navigator()", x -> x.navigator(6, 2, 0));
        Rafts.dueOneChange("sleep()", x -> x.sleep(0));
        Rafts.dueOneChange("goal()", x -> x.goal(-5400));
        Rafts.dueOneChange("sight()", x -> x.sight(6, 5));
        Rafts.dueOneChange("agree()", LampLatitudes::agree);
        Rafts.dueOneChange("sail()", x -> x.sail(99));
        Rafts.dueOneChange("night()", LampLatitudes::night);
        Rafts.dueOneChange("carryOut()", LampLatitudes::carryOut);
        Rafts.dueOneChange("restore()", x -> x.restore(0));
        LampLatitudes x = new LampLatitudes();
        x.star(1);
        x.star(5401);
        x.cloud(1);
        x.sail(0);
        x.agree();
        x.restore(0);
        x.carryOut();
        x.save(0);
        x.put('n');
        x.wipe();
        x.median(LampLatitudes.NONE);
        Due.due("count(16), neither errors nor questions nor texts", x.count(16), 1);
        Due.due("undo()", x.undo(), 0);
        Due.due("ofStar(0, 0)", x.ofStar(0, 0), LampLatitudes.NO_SUCH);
    }

    private static void nothingDifferent() {
        LampLatitudes x = new LampLatitudes();
        x.set(LampLatitudes.DRIFT, 4);
        Due.due("count(16), the same setting", x.count(16), 1);
        x.navigator(6, 2, 1);
        Due.due("count(16), the same side", x.count(16), 2);
        x.goal(0);
        Due.due("count(16), the same goal", x.count(16), 3);
        Due.carryOut(x, "m");
        Due.due("count(16), no order carried out", x.count(16), 4);
        x.save(1);
        x.restore(1);
        Due.due("count(16), restored as it is", x.count(16), 5);
        x.goal(1);
        Due.due("undo()", x.undo(), 5);
        Due.due("count(2)", x.count(2), 5400);
        for (int left = 4; left >= 0; left--) {
            Due.due("undo()", x.undo(), left);
        }
    }

    /** Changes and undoing in turns, round and round in the place that the history has. */
    private static void oldestIsDropped() {
        LampLatitudes x = new LampLatitudes();
        for (int goal = 1; goal <= 8; goal++) {
            x.goal(goal);
        }
        x.undo();
        x.undo();
        Due.due("count(2)", x.count(2), 5406);
        for (int goal = 11; goal <= 13; goal++) {
            x.goal(goal);
        }
        Due.due("count(16)", x.count(16), 6);
        int[] goals = {12, 11, 6, 5, 4, 3};
        for (int undone = 0; undone < 6; undone++) {
            Due.due("undo()", x.undo(), 5 - undone);
            Due.due("count(2)", x.count(2), 5400 + goals[undone]);
        }
        Due.due("undo(), the oldest ones are dropped", x.undo(), LampLatitudes.NOT_POSSIBLE);
        for (int goal = 21; goal <= 40; goal++) {
            x.goal(goal);
        }
        for (int undone = 1; undone <= 6; undone++) {
            Due.due("undo()", x.undo(), 6 - undone);
            Due.due("count(2)", x.count(2), 5440 - undone);
        }
        Due.due("undo(), once too often", x.undo(), LampLatitudes.NOT_POSSIBLE);
    }

    private static void ordersRecordNothing() {
        LampLatitudes x = new LampLatitudes();
        x.goal(5);
        Due.due("carryOut()", Due.carryOut(x, "*+1;*+2;c0;s5;n;z1;g+7;n;n"), 9);
        Due.due("count(16)", x.count(16), 2);
        Due.due("undo()", x.undo(), 1);
        Due.due("count(4)", x.count(4), 0);
        Due.due("count(2)", x.count(2), 5405);
        Due.due("undo()", x.undo(), 0);
        Due.due("count(2)", x.count(2), 5400);
    }

    private static void howMany() {
        LampLatitudes x = new LampLatitudes();
        x.goal(1);
        Due.due("undo() of the only one", x.undo(), 0);
        for (int change = 0; change < 7; change++) {
            x.goal(change);
        }
        for (int left = 5; left >= 0; left--) {
            Due.due("undo()", x.undo(), left);
            Due.due("count(16)", x.count(16), left);
        }
    }

    private static void nothingToUndo() {
        LampLatitudes x = new LampLatitudes();
        Due.due("undo(), at first", x.undo(), LampLatitudes.NOT_POSSIBLE);
        x.save(0);
        x.put('n');
        x.star(5401);
        Due.due("undo(), no change yet", x.undo(), LampLatitudes.NOT_POSSIBLE);
        x.goal(7);
        x.undo();
        Due.due("undo(), once too often", x.undo(), LampLatitudes.NOT_POSSIBLE);
        Due.due("count(2)", x.count(2), 5400);
        x.goal(8);
        Due.due("undo(), one more change", x.undo(), 0);
    }

    private static void savesEverything() {
        LampLatitudes x = Rafts.amidst();
        Due.due("save(1)", x.save(1), 6);
        String saved = Due.portrait(x);
        Rafts.repeat(wiped(x), "n", 9);
        Due.carryOut(x, "*+7;c0;s9;z0;z4;g+9");
        x.set(LampLatitudes.PULL, 29);
        x.navigator(5, 1, 33);
        x.put('n');
        Due.due("restore(1)", x.restore(1), 6);
        Due.due("the state that was saved", Due.portrait(x), saved);
        Due.due("count(15), without the pad", x.count(15), 1);
        Due.due("count(16), without the history", x.count(16), 6);
        x.undo();
        Due.due("of(5, 1), by the history that went on", x.of(5, 1), 93);
        LampLatitudes between = betweenTwoStates();
        Due.due("restore(0), all of it another one", between.restore(0), 8);
        Due.due("the state that was saved", Due.portrait(between), Due.portrait(filled(1)));
        LampLatitudes y = new LampLatitudes();
        y.star(1);
        y.save(0);
        y.star(2);
        y.save(1);
        Due.due("restore(0)", y.restore(0), 1);
        Due.due("restore(1), without the slots", y.restore(1), 2);
    }

    private static LampLatitudes wiped(LampLatitudes x) {
        x.wipe();
        return x;
    }

    private static void overwrites() {
        LampLatitudes x = new LampLatitudes();
        x.goal(1);
        x.save(0);
        x.goal(2);
        x.save(0);
        x.goal(3);
        x.restore(0);
        Due.due("count(2), saved later", x.count(2), 5402);
        x.goal(4);
        x.save(1);
        x.save(1);
        x.goal(5);
        x.restore(1);
        Due.due("count(2), saved twice", x.count(2), 5404);
    }

    private static void twoSlots() {
        LampLatitudes x = new LampLatitudes();
        x.goal(10);
        Due.due("save(0)", x.save(0), 0);
        x.goal(11);
        Due.due("save(1)", x.save(1), 0);
        x.goal(12);
        Due.due("restore(0)", x.restore(0), 0);
        Due.due("count(2), of the slot 0", x.count(2), 5410);
        Due.due("restore(1)", x.restore(1), 0);
        Due.due("count(2), of the slot 1", x.count(2), 5411);
        for (int slot : new int[] {-1, 2}) {
            Due.due("save(" + slot + ")", x.save(slot), LampLatitudes.BAD_VALUE);
            Due.due("restore(" + slot + ")", x.restore(slot), LampLatitudes.BAD_VALUE);
        }
    }

    private static void howManyStars() {
        LampLatitudes x = new LampLatitudes();
        for (int stars = 0; stars <= 8; stars++) {
            Due.due("save(0)", x.save(0), stars);
            Due.due("save(1)", x.save(1), stars);
            x.star(0);
        }
    }

    private static void noSuchSlotToSave() {
        LampLatitudes x = Rafts.withStars(0);
        for (int slot : NO_SLOTS) {
            Due.due("save(" + slot + ")", x.save(slot), LampLatitudes.BAD_VALUE);
        }
        Due.due("restore(0), nothing saved", x.restore(0), LampLatitudes.NOT_POSSIBLE);
        Due.due("restore(1), nothing saved", x.restore(1), LampLatitudes.NOT_POSSIBLE);
    }

    private static void restoresTheLast() {
        LampLatitudes x = Rafts.amidst();
        x.save(1);
        String saved = Due.portrait(x);
        x.night();
        x.undo();
        x.save(0);
        x.star(1);
        Due.due("restore(1)", x.restore(1), 6);
        Due.due("the state that was saved", Due.portrait(x), saved);
        LampLatitudes y = new LampLatitudes();
        for (int goal = 1; goal <= 4; goal++) {
            y.goal(goal);
            y.save(goal % 2);
        }
        y.restore(1);
        Due.due("count(2), saved last in the slot 1", y.count(2), 5403);
        y.restore(0);
        Due.due("count(2), saved last in the slot 0", y.count(2), 5404);
    }

    private static void keepsIt() {
        LampLatitudes x = Rafts.withStars(5);
        x.save(0);
        for (int time = 0; time < 3; time++) {
            x.star(6);
            x.goal(7);
            x.cloud(0);
            x.night();
            Due.due("restore(0)", x.restore(0), 1);
            Due.due("count(2)", x.count(2), 5400);
            Due.due("ofStar(0, 1)", x.ofStar(0, 1), 0);
            Due.due("count(4)", x.count(4), 0);
        }
        x.undo();
        Due.due("restore(0), undoing keeps it, too", x.restore(0), 1);
    }

    private static void restoreIsAChange() {
        Rafts.dueOneChange("restore(0)", x -> x.restore(0));
        LampLatitudes x = Rafts.withStars(5);
        x.save(0);
        x.star(6);
        x.restore(0);
        Due.due("count(16)", x.count(16), 3);
        Due.due("undo()", x.undo(), 2);
        Due.due("ofStar(1, 0), back again", x.ofStar(1, 0), 5406);
    }

    private static void howManyStarsThen() {
        LampLatitudes x = new LampLatitudes();
        x.save(0);
        for (int stars = 1; stars <= 8; stars++) {
            x.star(0);
            x.save(1);
            Due.due("restore(0)", x.restore(0), 0);
            Due.due("ofStar(0, 0)", x.ofStar(0, 0), LampLatitudes.NO_SUCH);
            Due.due("restore(1)", x.restore(1), stars);
            Due.due("ofStar(" + (stars - 1) + ", 0)", x.ofStar(stars - 1, 0), 5400);
        }
    }

    private static void noSuchSlotToRestore() {
        LampLatitudes x = Rafts.withStars(0);
        for (int slot : NO_SLOTS) {
            Due.due("restore(" + slot + "), nothing saved", x.restore(slot), LampLatitudes.BAD_VALUE);
        }
        x.save(0);
        x.save(1);
        for (int slot : NO_SLOTS) {
            Due.due("restore(" + slot + "), all saved", x.restore(slot), LampLatitudes.BAD_VALUE);
        }
        Due.due("count(16)", x.count(16), 1);
    }

    private static void nothingSaved() {
        LampLatitudes x = Rafts.withStars(0);
        Due.due("restore(0)", x.restore(0), LampLatitudes.NOT_POSSIBLE);
        x.save(1);
        Due.due("restore(0), saved in the other one", x.restore(0), LampLatitudes.NOT_POSSIBLE);
        Due.due("restore(1)", x.restore(1), 1);
        x.save(0);
        Due.due("restore(0)", x.restore(0), 1);
        LampLatitudes y = Rafts.withStars(0);
        y.save(0);
        Due.due("restore(1), saved in the other one", y.restore(1), LampLatitudes.NOT_POSSIBLE);
        Due.due("count(16)", y.count(16), 1);
    }
}

/** The sentences about sailing: the term, and the promises 7, 10 and 21. */
final class SailingSentences {
    private SailingSentences() {
    }

    static void run(Book book) {
        book.sentence("Sailing, nights", "The raft has a goal (0 at first).", SailingSentences::firstGoal);
        book.sentence("Sailing, nights", "In an hour: if the raft believes a latitude, it is steered", SailingSentences::ifItBelieves);
        book.sentence("Sailing, nights", "by how far that is from the goal, toward the goal", SailingSentences::towardTheGoal);
        book.sentence("Sailing, nights", "but by PULL at most", SailingSentences::byPullAtMost);
        book.sentence("Sailing, nights", "both its latitude and what it believes change by that.", SailingSentences::bothChange);
        book.sentence("Sailing, nights", "Then its latitude drifts by DRIFT", SailingSentences::driftsThen);
        book.sentence("Sailing, nights", "neither is ever beyond -5400 and 5400.", SailingSentences::neverBeyondThePoles);
        book.sentence("Sailing, nights", "Then the hour is counted.", SailingSentences::hoursAreCounted);
        book.sentence("Promise 7", "Changes the goal. This is a change.", SailingSentences::goalIsAChange);
        book.sentence("Promise 7", "`latitude`: -5400 to 5400", SailingSentences::goals);
        book.sentence("Promise 7", "Returns the previous one and 5400", SailingSentences::previousGoal);
        book.sentence("Promise 7", "BAD_VALUE if latitude is out of range", SailingSentences::wrongGoals);
        book.sentence("Promise 10", "The raft sails. This is a change.", SailingSentences::sailIsAChange);
        book.sentence("Promise 10", "`hours`: 1 to 99", SailingSentences::oneTo99);
        book.sentence("Promise 10", "Returns its latitude then and 5400", SailingSentences::latitudeThen);
        book.sentence("Promise 10", "BAD_VALUE if hours is out of range", SailingSentences::wrongHours);
        book.sentence("Promise 10", "NOT_POSSIBLE if there would be more than 9999 hours", SailingSentences::mostHours);
        book.sentence("Promise 21", "Tells in how many hours, 0 or more, the raft is not farther than some minutes from its goal",
            SailingSentences::notFarther);
        book.sentence("Promise 21", "if nothing else is done", SailingSentences::nothingElse);
        book.sentence("Promise 21", "`minutes`: 0 to 999", SailingSentences::zeroTo999);
        book.sentence("Promise 21", "Returns how many", SailingSentences::howMany);
        book.sentence("Promise 21", "BAD_VALUE if minutes is out of range", SailingSentences::wrongMinutes);
        book.sentence("Promise 21", "NONE if it is not within 500", SailingSentences::within500);
    }

    private static void dueSail(LampLatitudes x, int hours, int latitude, int belief) {
        Due.due("sail(" + hours + ")", x.sail(hours), latitude + 5400);
        Due.due("count(0)", x.count(0), latitude + 5400);
        Due.due("count(1)", x.count(1), belief + 5400);
        Due.due("count(10)", x.count(10), Math.max(latitude - belief, belief - latitude));
    }

    private static void firstGoal() {
        LampLatitudes x = new LampLatitudes();
        Due.due("count(2)", x.count(2), 5400);
        Due.due("arrivesIn(0)", x.arrivesIn(0), 0);
        Due.due("goal(1)", x.goal(1), 5400);
        dueSail(Rafts.believing(50), 1, -6, 44);
    }

    private static void ifItBelieves() {
        LampLatitudes x = new LampLatitudes();
        x.goal(-700);
        Due.due("sail(3), nothing believed", x.sail(3), 5412);
        Due.due("count(1)", x.count(1), LampLatitudes.NONE);
        Due.due("count(10)", x.count(10), LampLatitudes.NONE);
        x.set(LampLatitudes.DRIFT, 0);
        Due.due("sail(99), nothing believed", x.sail(99), 5412);
        LampLatitudes zero = Rafts.believing(0);
        zero.goal(-700);
        dueSail(zero, 1, -6, -6);
        zero.night();
        dueSail(zero, 1, -12, -12);
    }

    private static void towardTheGoal() {
        LampLatitudes x = Rafts.believing(20);
        x.goal(15);
        dueSail(x, 1, -5, 15);
        dueSail(x, 1, -5, 15);
        x.goal(16);
        dueSail(x, 1, -4, 16);
        x.goal(-5400);
        dueSail(x, 1, -10, 10);
        x.goal(5400);
        dueSail(x, 1, -4, 16);
        x.goal(-4);
        dueSail(x, 1, -10, 10);
    }

    private static void byPullAtMost() {
        for (int way : new int[] {5, 6, 7}) {
            int steered = Math.min(way, 6);
            LampLatitudes north = Rafts.believing(-way);
            dueSail(north, 1, steered, steered - way);
            LampLatitudes south = Rafts.believing(way);
            dueSail(south, 1, -steered, way - steered);
            dueSail(south, 2, -way, 0);
        }
        LampLatitudes x = Rafts.believing(-100);
        x.set(LampLatitudes.PULL, 30);
        dueSail(x, 3, 90, -10);
        dueSail(x, 1, 100, 0);
        x.set(LampLatitudes.PULL, 0);
        x.goal(700);
        dueSail(x, 9, 100, 0);
    }

    private static void bothChange() {
        LampLatitudes x = Rafts.believing(-5400);
        x.goal(5400);
        dueSail(x, 1, 6, -5394);
        x.set(LampLatitudes.PULL, 30);
        dueSail(x, 99, 6 + 99 * 30, -5394 + 99 * 30);
        x.set(LampLatitudes.DRIFT, -9);
        dueSail(x, 1, 6 + 100 * 30 - 9, -5394 + 100 * 30);
    }

    /** At a pole it shows whether the raft is steered first: what is beyond the pole is cut off. */
    private static void driftsThen() {
        LampLatitudes x = Rafts.believing(0);
        x.goal(-700);
        x.set(LampLatitudes.DRIFT, 4);
        dueSail(x, 1, -2, -6);
        dueSail(x, 10, -22, -66);
        LampLatitudes pole = believingAtThePole();
        pole.set(LampLatitudes.PULL, 6);
        pole.set(LampLatitudes.DRIFT, 4);
        pole.goal(-5400);
        dueSail(pole, 1, 5398, -6);
    }

    /** A raft at the north pole that believes to be at the latitude 0, is not steered, and drifts no more. */
    private static LampLatitudes believingAtThePole() {
        LampLatitudes x = Rafts.believing(0);
        x.set(LampLatitudes.PULL, 0);
        Rafts.bring(x, 5400);
        return x;
    }

    private static void neverBeyondThePoles() {
        for (int side = -1; side <= 1; side += 2) {
            LampLatitudes drifting = Rafts.at(side * 5399);
            drifting.set(LampLatitudes.DRIFT, side);
            Due.due("sail(1) to the pole", drifting.sail(1), 5400 + side * 5400);
            Due.due("sail(1) at the pole", drifting.sail(1), 5400 + side * 5400);
            drifting.set(LampLatitudes.DRIFT, side * 30);
            Due.due("sail(99) at the pole", drifting.sail(99), 5400 + side * 5400);
            drifting.set(LampLatitudes.DRIFT, -side);
            Due.due("sail(1) away from it", drifting.sail(1), 5400 + side * 5399);
        }
        LampLatitudes steered = believingAtThePole();
        steered.set(LampLatitudes.PULL, 6);
        steered.goal(5400);
        dueSail(steered, 1, 5400, 6);
        steered.set(LampLatitudes.DRIFT, -4);
        dueSail(steered, 1, 5396, 12);
        dueSail(steered, 1, 5396, 18);
        LampLatitudes believed = Rafts.believing(5399);
        believed.goal(5400);
        dueSail(believed, 2, 1, 5400);
        believed.goal(-5400);
        dueSail(believed, 1, -5, 5394);
        LampLatitudes south = Rafts.believing(-5399);
        south.goal(-5400);
        dueSail(south, 2, -1, -5400);
    }

    private static void hoursAreCounted() {
        LampLatitudes x = new LampLatitudes();
        Due.due("count(3), at first", x.count(3), 0);
        int hours = 0;
        for (int more : new int[] {1, 2, 99, 98}) {
            x.sail(more);
            hours += more;
            Due.due("count(3)", x.count(3), hours);
        }
        x.sail(100);
        x.arrivesIn(7);
        x.night();
        Due.due("count(3), no hour since", x.count(3), hours);
        x.undo();
        x.undo();
        Due.due("count(3), undone", x.count(3), hours - 98);
    }

    private static void goalIsAChange() {
        Rafts.dueOneChange("goal(5400)", x -> x.goal(5400));
        LampLatitudes x = new LampLatitudes();
        x.goal(0);
        Due.due("count(16), the same goal", x.count(16), 1);
        Due.due("count(0), the latitude stays", x.count(0), 5400);
    }

    private static void goals() {
        LampLatitudes x = new LampLatitudes();
        for (int goal : new int[] {-5400, -5399, 0, 5399, 5400}) {
            Due.due("goal(" + goal + ") is no error", x.goal(goal) >= 0 ? 1 : 0, 1);
            Due.due("count(2)", x.count(2), goal + 5400);
        }
    }

    private static void previousGoal() {
        LampLatitudes x = new LampLatitudes();
        Due.due("goal(5400)", x.goal(5400), 5400);
        Due.due("goal(5400)", x.goal(5400), 10800);
        Due.due("goal(-5400)", x.goal(-5400), 10800);
        Due.due("goal(-5400)", x.goal(-5400), 0);
        Due.due("goal(1)", x.goal(1), 0);
        Due.due("goal(0)", x.goal(0), 5401);
    }

    private static void wrongGoals() {
        LampLatitudes x = new LampLatitudes();
        x.goal(77);
        for (int goal : new int[] {-5401, 5401, Integer.MIN_VALUE, Integer.MAX_VALUE}) {
            Due.due("goal(" + goal + ")", x.goal(goal), LampLatitudes.BAD_VALUE);
        }
        Due.due("count(2)", x.count(2), 5477);
        Due.due("count(16)", x.count(16), 1);
    }

    private static void sailIsAChange() {
        Rafts.dueOneChange("sail(1)", x -> x.sail(1));
        Rafts.dueOneChange("sail(99)", x -> x.sail(99));
        LampLatitudes x = new LampLatitudes();
        x.set(LampLatitudes.DRIFT, 0);
        x.sail(99);
        Due.due("count(16), one change of 99 hours", x.count(16), 2);
        x.undo();
        Due.due("count(3)", x.count(3), 0);
    }

    private static void oneTo99() {
        for (int hours : new int[] {1, 2, 98, 99}) {
            LampLatitudes x = new LampLatitudes();
            Due.due("sail(" + hours + ")", x.sail(hours), 5400 + 4 * hours);
            Due.due("count(3)", x.count(3), hours);
        }
    }

    private static void latitudeThen() {
        LampLatitudes x = Rafts.at(5396);
        x.set(LampLatitudes.DRIFT, 4);
        Due.due("sail(1), to the north pole", x.sail(1), 10800);
        Due.due("sail(1), still there", x.sail(1), 10800);
        LampLatitudes south = Rafts.at(-5396);
        south.set(LampLatitudes.DRIFT, -4);
        Due.due("sail(1), to the south pole", south.sail(1), 0);
        LampLatitudes believing = Rafts.believing(100);
        Due.due("sail(1), not what it believes", believing.sail(1), 5394);
    }

    private static void wrongHours() {
        LampLatitudes x = new LampLatitudes();
        for (int hours : new int[] {0, -1, 100, 101, -99, 9999, Integer.MIN_VALUE, Integer.MAX_VALUE}) {
            Due.due("sail(" + hours + ")", x.sail(hours), LampLatitudes.BAD_VALUE);
        }
        Due.due("count(3)", x.count(3), 0);
        Due.due("count(0)", x.count(0), 5400);
        LampLatitudes late = Rafts.withHours(9999);
        Due.due("sail(0), no hour is left", late.sail(0), LampLatitudes.BAD_VALUE);
        Due.due("sail(100), no hour is left", late.sail(100), LampLatitudes.BAD_VALUE);
        Due.due("sail(max), no hour is left", late.sail(Integer.MAX_VALUE), LampLatitudes.BAD_VALUE);
    }

    private static void mostHours() {
        LampLatitudes x = Rafts.withHours(9900);
        Due.due("sail(99), up to 9999", x.sail(99) >= 0 ? 1 : 0, 1);
        Due.due("sail(1), above 9999", x.sail(1), LampLatitudes.NOT_POSSIBLE);
        Due.due("sail(99), above 9999", x.sail(99), LampLatitudes.NOT_POSSIBLE);
        Due.due("count(3)", x.count(3), 9999);
        LampLatitudes y = Rafts.withHours(9901);
        Due.due("sail(99), above 9999", y.sail(99), LampLatitudes.NOT_POSSIBLE);
        Due.due("count(3)", y.count(3), 9901);
        Due.due("sail(98), up to 9999", y.sail(98) >= 0 ? 1 : 0, 1);
        LampLatitudes z = Rafts.withHours(9998);
        Due.due("sail(2), above 9999", z.sail(2), LampLatitudes.NOT_POSSIBLE);
        Due.due("sail(1), up to 9999", z.sail(1) >= 0 ? 1 : 0, 1);
        Due.due("undo()", z.undo() >= 0 ? 1 : 0, 1);
        Due.due("sail(1) after undo()", z.sail(1) >= 0 ? 1 : 0, 1);
        Due.due("count(3)", z.count(3), 9999);
    }

    private static void notFarther() {
        LampLatitudes x = new LampLatitudes();
        x.goal(100);
        Due.due("arrivesIn(101)", x.arrivesIn(101), 0);
        Due.due("arrivesIn(100)", x.arrivesIn(100), 0);
        Due.due("arrivesIn(99)", x.arrivesIn(99), 1);
        Due.due("arrivesIn(96)", x.arrivesIn(96), 1);
        Due.due("arrivesIn(95)", x.arrivesIn(95), 2);
        Due.due("arrivesIn(0)", x.arrivesIn(0), 25);
        x.goal(-100);
        Due.due("arrivesIn(100), south", x.arrivesIn(100), 0);
        Due.due("arrivesIn(99), drifts away", x.arrivesIn(99), LampLatitudes.NONE);
        x.goal(6);
        Due.due("arrivesIn(1), drifts past", x.arrivesIn(1), LampLatitudes.NONE);
        Due.due("arrivesIn(2), drifts past", x.arrivesIn(2), 1);
        LampLatitudes pole = new LampLatitudes();
        pole.set(LampLatitudes.DRIFT, 29);
        pole.goal(5400);
        Due.due("arrivesIn(0), cut off at the pole", pole.arrivesIn(0), 187);
        Due.due("arrivesIn(5), cut off at the pole", pole.arrivesIn(5), 187);
        Due.due("arrivesIn(6), just before", pole.arrivesIn(6), 186);
    }

    private static void nothingElse() {
        LampLatitudes x = Rafts.believing(-10);
        x.goal(100);
        Due.due("arrivesIn(1), steered alone, it believes to be there", x.arrivesIn(1), LampLatitudes.NONE);
        Due.due("arrivesIn(10), steered alone", x.arrivesIn(10), 15);
        Due.due("arrivesIn(9), steered alone, one more hour", x.arrivesIn(9), 16);
        x.set(LampLatitudes.DRIFT, 4);
        Due.due("arrivesIn(5), steered and drifting", x.arrivesIn(5), 10);
        x.set(LampLatitudes.PULL, 1);
        Due.due("arrivesIn(0), steered less", x.arrivesIn(0), 20);
        Due.due("count(0), nothing changes", x.count(0), 5400);
        Due.due("count(1), nothing changes", x.count(1), 5390);
        Due.due("count(3), nothing changes", x.count(3), 0);
        Due.due("arrivesIn(0), once more", x.arrivesIn(0), 20);
        Due.due("sail(20)", x.sail(20), 5500);
        Due.due("arrivesIn(0), there", x.arrivesIn(0), 0);
    }

    private static void zeroTo999() {
        LampLatitudes x = new LampLatitudes();
        x.goal(1000);
        Due.due("arrivesIn(999)", x.arrivesIn(999), 1);
        Due.due("arrivesIn(998)", x.arrivesIn(998), 1);
        Due.due("arrivesIn(1)", x.arrivesIn(1), 250);
        Due.due("arrivesIn(0)", x.arrivesIn(0), 250);
    }

    private static void howMany() {
        LampLatitudes x = new LampLatitudes();
        x.set(LampLatitudes.DRIFT, 1);
        for (int hours : new int[] {0, 1, 2, 99, 100, 499, 500}) {
            x.goal(hours);
            Due.due("arrivesIn(0) of " + hours, x.arrivesIn(0), hours);
        }
    }

    private static void wrongMinutes() {
        LampLatitudes x = new LampLatitudes();
        for (int minutes : new int[] {-1, 1000, Integer.MIN_VALUE, Integer.MAX_VALUE}) {
            Due.due("arrivesIn(" + minutes + "), at the goal", x.arrivesIn(minutes), LampLatitudes.BAD_VALUE);
        }
        x.goal(-5400);
        for (int minutes : new int[] {-1, 1000, -6, Integer.MIN_VALUE, Integer.MAX_VALUE}) {
            Due.due("arrivesIn(" + minutes + "), never there", x.arrivesIn(minutes), LampLatitudes.BAD_VALUE);
        }
    }

    private static void within500() {
        LampLatitudes x = new LampLatitudes();
        x.set(LampLatitudes.DRIFT, 1);
        x.goal(500);
        Due.due("arrivesIn(0), 500 hours", x.arrivesIn(0), 500);
        x.goal(501);
        Due.due("arrivesIn(0), 501 hours", x.arrivesIn(0), LampLatitudes.NONE);
        Due.due("arrivesIn(1), 500 hours", x.arrivesIn(1), 500);
        x.goal(1499);
        Due.due("arrivesIn(999), 500 hours", x.arrivesIn(999), 500);
        x.goal(1500);
        Due.due("arrivesIn(999), 501 hours", x.arrivesIn(999), LampLatitudes.NONE);
        x.set(LampLatitudes.DRIFT, 0);
        x.goal(1);
        Due.due("arrivesIn(0), never", x.arrivesIn(0), LampLatitudes.NONE);
    }
}

import java.util.function.Supplier;
import java.util.function.ToIntFunction;

/** The sentences of the conventions, and those about the calls as a whole. */
final class ConventionSentences {
    private ConventionSentences() {
    }

    static void run(Book book) {
        book.sentence("What it is", "An object is used for at most 512 calls after it has been made; what later calls answer is"
            + " free.", ConventionSentences::lastCalls);
        book.sentence("Terms", "A method that fails returns one of the error codes NO_SUCH (-1), BAD_VALUE (-2), BAD_TEXT (-3),"
            + " TOO_MANY (-4) and NOT_POSSIBLE (-5)", ConventionSentences::errorCodes);
        book.sentence("Terms", "it names its errors in the order in which they are checked, and the first one that applies is"
            + " returned", ConventionSentences::firstErrors);
        book.sentence("Terms", "A call that returns an error changes nothing", ConventionSentences::errorsChangeNothing);
        book.sentence("Terms", "NONE (-6) is not an error; it is returned only if no error applies", ConventionSentences::none);
        book.sentence("Terms", "Everything is numbered from 0", ConventionSentences::numberedFromZero);
        book.sentence("Terms", "latitudes and declinations are -5400 to 5400 (above 0 to the north)",
            ConventionSentences::latitudes);
        book.sentence("Terms", "what can be below 0 is told with an offset", ConventionSentences::offsets);
        book.sentence("Terms", "Sets of navigators and stars are bit masks", ConventionSentences::sets);
        book.sentence("Texts", "The constants: `NO_SUCH = -1, BAD_VALUE = -2, BAD_TEXT = -3, TOO_MANY = -4, NOT_POSSIBLE = -5,"
            + " NONE = -6`: Error codes, and NONE: there is none.", ConventionSentences::constantsOfErrors);
        book.sentence("Texts", "`DRIFT = 0, PULL = 1, QUARREL = 2, LOW = 3`: Settings.", ConventionSentences::constantsOfSettings);
        book.sentence("Texts", "Ahead of the calls `set`, `star`, `cloud`, `navigator`, `sleep`, `goal`, `sight`, `agree`, `sail`,"
            + " `night` the interface says: ---- changes.", ConventionSentences::changes);
        book.sentence("Texts", "Ahead of the calls `of`, `ofStar`, `log`, `count` the interface says: ---- what there is.",
            ConventionSentences::whatThereIs);
        book.sentence("Texts", "Ahead of the calls `why`, `ifSighted`, `median`, `bestStar`, `nearest`, `arrivesIn` the interface"
            + " says: ---- what if; nothing changes.", ConventionSentences::whatIf);
        book.sentence("Texts", "Ahead of the calls `put`, `wipe`, `fault`, `carryOut` the interface says: ---- texts.",
            ConventionSentences::texts);
        book.sentence("Texts", "Ahead of the calls `undo`, `save`, `restore` the interface says: ---- undo, saving.",
            ConventionSentences::undoAndSaving);
    }

    private static void lastCalls() {
        LampLatitudes x = new LampLatitudes();
        Due.due("the first call", x.goal(0), 5400);
        for (int call = 2; call <= 511; call++) {
            Due.due("call " + call, x.goal(call), 5400 + (call == 2 ? 0 : call - 1));
        }
        Due.due("the last call of 512", x.goal(1), 5400 + 511);
        LampLatitudes sighted = Rafts.withStars(0);
        for (int call = 2; call <= 511; call++) {
            Due.due("sights before call " + call, sighted.sight(3, 0) >= 0 ? 1 : 0, 1);
        }
        Due.due("count(5) as the last call of 512", sighted.count(5), 510);
        LampLatitudes undone = new LampLatitudes();
        for (int call = 1; call <= 511; call++) {
            undone.sleep(call % 7);
        }
        Due.due("undo() as the last call of 512", undone.undo(), 5);
    }

    private static void errorCodes() {
        LampLatitudes x = new LampLatitudes();
        Due.due("cloud(0)", x.cloud(0), -1);
        Due.due("star(5401)", x.star(5401), -2);
        Due.due("carryOut()", x.carryOut(), -3);
        LampLatitudes full = Rafts.withStars(0, 0, 0, 0, 0, 0, 0, 0);
        Due.due("star(0)", full.star(0), -4);
        Due.due("agree()", x.agree(), -5);
    }

    private static void firstErrors() {
        LampLatitudes full = Rafts.withStars(0, 0, 0, 0, 0, 0, 0, 0);
        Due.due("star(5401) with 8 stars", full.star(5401), LampLatitudes.BAD_VALUE);
        LampLatitudes x = new LampLatitudes();
        Due.due("navigator(7, 3, 99)", x.navigator(7, 3, 99), LampLatitudes.NO_SUCH);
        Due.due("of(7, 8)", x.of(7, 8), LampLatitudes.NO_SUCH);
        Due.due("ofStar(0, 4)", x.ofStar(0, 4), LampLatitudes.NO_SUCH);
        Due.due("log(0, 4)", x.log(0, 4), LampLatitudes.NO_SUCH);
        Due.due("median(7) of none", x.median(7), LampLatitudes.NO_SUCH);
        Due.due("restore(2)", x.restore(2), LampLatitudes.BAD_VALUE);
        x.star(0);
        x.sleep(0);
        Due.due("sight(0, 1), asleep", x.sight(0, 1), LampLatitudes.NO_SUCH);
        Due.due("ifSighted(0, 1), asleep", x.ifSighted(0, 1), LampLatitudes.NO_SUCH);
        Due.due("why(0, 1), asleep", x.why(0, 1), LampLatitudes.NO_SUCH);
        LampLatitudes late = Rafts.withHours(9999);
        Due.due("sail(0) after 9999 hours", late.sail(0), LampLatitudes.BAD_VALUE);
        Due.due("sail(100) after 9999 hours", late.sail(100), LampLatitudes.BAD_VALUE);
        LampLatitudes written = Rafts.withPad("~".repeat(80));
        Due.due("put(32) on a full pad", written.put(32), LampLatitudes.BAD_VALUE);
        Due.due("put(0) on a full pad", written.put(0), LampLatitudes.BAD_VALUE);
    }

    private static void errorsChangeNothing() {
        for (int setting = -1; setting <= 4; setting++) {
            int wrong = setting;
            dueNothing("set(" + wrong + ", -31)", x -> x.set(wrong, -31), -2);
            dueNothing("set(" + wrong + ", 1801)", x -> x.set(wrong, 1801), -2);
        }
        dueNothing("star(5401)", x -> x.star(5401), -2);
        dueNothing("star(-5401)", x -> x.star(-5401), -2);
        dueNothing("cloud(6)", x -> x.cloud(6), -1);
        dueNothing("cloud(32)", x -> x.cloud(32), -1);
        for (int what = 0; what < 3; what++) {
            int trait = what;
            dueNothing("navigator(7, " + trait + ", 1)", x -> x.navigator(7, trait, 1), -1);
            dueNothing("navigator(0, " + trait + ", 61)", x -> x.navigator(0, trait, 61), -2);
            dueNothing("navigator(0, " + trait + ", -61)", x -> x.navigator(0, trait, -61), -2);
        }
        dueNothing("navigator(0, 3, 1)", x -> x.navigator(0, 3, 1), -2);
        dueNothing("sleep(7)", x -> x.sleep(7), -1);
        dueNothing("sleep(5), who sulks", x -> x.sleep(5), -5);
        dueNothing("goal(5401)", x -> x.goal(5401), -2);
        dueNothing("sight(0, 6)", x -> x.sight(0, 6), -1);
        dueNothing("sight(7, 0)", x -> x.sight(7, 0), -1);
        dueNothing("sight(4, 0), asleep", x -> x.sight(4, 0), -5);
        dueNothing("sight(5, 0), sulking", x -> x.sight(5, 0), -5);
        dueNothing("sight(0, 3), behind clouds", x -> x.sight(0, 3), -5);
        dueNothing("sight(0, 2), too low", x -> x.sight(0, 2), -5);
        dueNothing("sail(0)", x -> x.sail(0), -2);
        dueNothing("sail(100)", x -> x.sail(100), -2);
        dueNothing("restore(1), nothing saved", x -> x.restore(1), -5);
        dueNothing("restore(2)", x -> x.restore(2), -2);
        dueNothing("save(2)", x -> x.save(2), -2);
        dueNothing("put(32)", x -> x.put(32), -2);
        dueNothing("put(..), half of it wrong", x -> x.put(Due.packed("m;m;m m;")), -2);
        dueNothing("put(..), too many", x -> x.put(Due.packed(";n")), -4);
        askingWrongly();
        errorsOfFullRafts();
    }

    private static void askingWrongly() {
        dueNothing("of(7, 0)", x -> x.of(7, 0), -1);
        dueNothing("of(0, 8)", x -> x.of(0, 8), -2);
        dueNothing("ofStar(6, 0)", x -> x.ofStar(6, 0), -1);
        dueNothing("ofStar(0, 4)", x -> x.ofStar(0, 4), -2);
        dueNothing("log(1, 0)", x -> x.log(1, 0), -1);
        dueNothing("log(0, 4)", x -> x.log(0, 4), -2);
        dueNothing("count(17)", x -> x.count(17), -2);
        dueNothing("why(7, 0)", x -> x.why(7, 0), -1);
        dueNothing("ifSighted(7, 0)", x -> x.ifSighted(7, 0), -1);
        dueNothing("ifSighted(5, 0)", x -> x.ifSighted(5, 0), -5);
        dueNothing("median(7)", x -> x.median(7), -1);
        dueNothing("median(0), too few", x -> x.median(0), -5);
        dueNothing("nearest(2)", x -> x.nearest(2), -2);
        dueNothing("arrivesIn(1000)", x -> x.arrivesIn(1000), -2);
    }

    /** Errors that come only where something is full, or there is too little. */
    private static void errorsOfFullRafts() {
        for (int way = 0; way <= 1; way++) {
            dueTwins("star(0), a ninth one", () -> Rafts.withStars(1, 2, 3, 4, 5, 6, 7, 8), x -> x.star(0), -4, way);
            dueTwins("agree() of two", () -> Rafts.estimating(1, 2), LampLatitudes::agree, -5, way);
            dueTwins("sail(2) after 9998 hours", () -> Rafts.withHours(9998), x -> x.sail(2), -5, way);
            dueTwins("night(), a thousandth one", () -> Rafts.withNights(999), LampLatitudes::night, -5, way);
            dueTwins("carryOut() of a fault", () -> Rafts.withPad("n;n;"), LampLatitudes::carryOut, -3, way);
            dueTwins("undo() of nothing", LampLatitudes::new, LampLatitudes::undo, -5, way);
        }
    }

    private static void dueNothing(String call, ToIntFunction<LampLatitudes> wrong, int error) {
        for (int way = 0; way <= 9; way++) {
            dueTwins(call, Rafts::amidst, wrong, error, way);
        }
    }

    /** A raft on which a call has failed answers whatever comes like one on which it was not made. */
    private static void dueTwins(String call, Supplier<LampLatitudes> raft, ToIntFunction<LampLatitudes> wrong, int error,
            int way) {
        LampLatitudes one = raft.get();
        LampLatitudes other = raft.get();
        Due.due(call, wrong.applyAsInt(one), error);
        Due.due("after " + call + ", way " + way, whatComes(one, way), whatComes(other, way));
    }

    private static String whatComes(LampLatitudes x, int way) {
        StringBuilder answers = new StringBuilder();
        for (int time = 0; time < Math.min(way, 6); time++) {
            answers.append(x.undo()).append(' ');
        }
        if (way == 7) {
            answers.append(x.restore(0)).append(' ');
        } else if (way == 8) {
            answers.append(x.restore(1)).append(' ');
        } else if (way == 9) {
            answers.append(x.carryOut()).append(' ');
        }
        return answers + Due.portraitOfAll(x);
    }

    private static void none() {
        LampLatitudes x = new LampLatitudes();
        x.goal(5400);
        Due.due("of(0, 5)", x.of(0, 5), -6);
        Due.due("of(7, 5)", x.of(7, 5), LampLatitudes.NO_SUCH);
        Due.due("count(1)", x.count(1), -6);
        Due.due("count(10)", x.count(10), -6);
        Due.due("bestStar()", x.bestStar(), -6);
        Due.due("nearest(0)", x.nearest(0), -6);
        Due.due("nearest(1)", x.nearest(1), -6);
        Due.due("nearest(2)", x.nearest(2), LampLatitudes.BAD_VALUE);
        Due.due("arrivesIn(0)", x.arrivesIn(0), -6);
        Due.due("arrivesIn(-1)", x.arrivesIn(-1), LampLatitudes.BAD_VALUE);
        Due.due("arrivesIn(1000)", x.arrivesIn(1000), LampLatitudes.BAD_VALUE);
        Due.due("log(0, 2)", x.log(0, 2), LampLatitudes.NO_SUCH);
        x.night();
        Due.due("log(0, 2), nothing believed", x.log(0, 2), -6);
        Due.due("log(1, 2)", x.log(1, 2), LampLatitudes.NO_SUCH);
        Due.due("log(0, 4)", x.log(0, 4), LampLatitudes.BAD_VALUE);
        x.put('n');
        Due.due("fault()", x.fault(), -6);
    }

    private static void numberedFromZero() {
        LampLatitudes x = new LampLatitudes();
        Due.due("the first star", x.star(10), 0);
        Due.due("ofStar(0, 0)", x.ofStar(0, 0), 5410);
        Due.due("ofStar(-1, 0)", x.ofStar(-1, 0), LampLatitudes.NO_SUCH);
        Due.due("ofStar(1, 0)", x.ofStar(1, 0), LampLatitudes.NO_SUCH);
        Due.due("ofStar(0, -1)", x.ofStar(0, -1), LampLatitudes.BAD_VALUE);
        Due.due("of(0, 0)", x.of(0, 0), 5);
        Due.due("of(-1, 0)", x.of(-1, 0), LampLatitudes.NO_SUCH);
        Due.due("of(0, -1)", x.of(0, -1), LampLatitudes.BAD_VALUE);
        Due.due("set(0, 0)", x.set(0, 0), 34);
        Due.due("set(-1, 0)", x.set(-1, 0), LampLatitudes.BAD_VALUE);
        Due.due("the first night", x.count(4), 0);
        x.night();
        Due.due("log(0, 0)", x.log(0, 0), 0);
        Due.due("log(-1, 0)", x.log(-1, 0), LampLatitudes.NO_SUCH);
        Due.due("count(-1)", x.count(-1), LampLatitudes.BAD_VALUE);
        Due.due("save(0)", x.save(0), 1);
        Due.due("save(-1)", x.save(-1), LampLatitudes.BAD_VALUE);
        x.put('x');
        Due.due("the index of the first character", x.fault(), 0);
    }

    private static void latitudes() {
        LampLatitudes x = new LampLatitudes();
        Due.due("star(5400)", x.star(5400), 0);
        Due.due("star(-5400)", x.star(-5400), 1);
        Due.due("star(5401)", x.star(5401), LampLatitudes.BAD_VALUE);
        Due.due("star(-5401)", x.star(-5401), LampLatitudes.BAD_VALUE);
        Due.due("goal(5400)", x.goal(5400), 5400);
        Due.due("goal(-5400)", x.goal(-5400), 10800);
        Due.due("goal(5401)", x.goal(5401), LampLatitudes.BAD_VALUE);
        Due.due("goal(-5401)", x.goal(-5401), LampLatitudes.BAD_VALUE);
        LampLatitudes north = Rafts.at(5400);
        north.set(LampLatitudes.DRIFT, 1);
        Due.due("sail(1), north of the pole", north.sail(1), 10800);
        LampLatitudes south = Rafts.at(-5400);
        south.set(LampLatitudes.DRIFT, -1);
        Due.due("sail(1), south of the pole", south.sail(1), 0);
    }

    private static void offsets() {
        LampLatitudes x = Rafts.at(-5400);
        Due.due("count(0)", x.count(0), 0);
        Due.due("sail(1)", x.sail(1), 0);
        x.star(-5400);
        x.star(5400);
        Due.due("ofStar(0, 0)", x.ofStar(0, 0), 0);
        Due.due("ofStar(1, 2)", x.ofStar(1, 2), 0);
        for (int navigator = 0; navigator < 3; navigator++) {
            x.navigator(navigator, 0, 9);
            Due.due("ifSighted(" + navigator + ", 0)", x.ifSighted(navigator, 0), 0);
            Due.due("sight(" + navigator + ", 0)", x.sight(navigator, 0), 0);
            Due.due("of(" + navigator + ", 5)", x.of(navigator, 5), 0);
        }
        Due.due("median(NONE)", x.median(LampLatitudes.NONE), 0);
        Due.due("agree()", x.agree(), 0);
        Due.due("count(1)", x.count(1), 0);
        x.goal(-5400);
        Due.due("count(2)", x.count(2), 0);
        Due.due("goal(0)", x.goal(0), 0);
        x.night();
        Due.due("log(0, 1)", x.log(0, 1), 0);
        Due.due("log(0, 2)", x.log(0, 2), 0);
        x.set(LampLatitudes.DRIFT, -30);
        Due.due("count(11)", x.count(11), 0);
        Due.due("set(DRIFT, 0)", x.set(LampLatitudes.DRIFT, 0), 0);
        x.navigator(0, 1, -60);
        x.navigator(0, 0, 0);
        Due.due("of(0, 1)", x.of(0, 1), 0);
        Due.due("of(0, 7)", x.of(0, 7), 999 - 60 + 9 * (7 - 5));
        Due.due("navigator(0, 1, 0)", x.navigator(0, 1, 0), 0);
    }

    private static void sets() {
        LampLatitudes x = Rafts.withStars(0);
        Due.due("ofStar(0, 3), all", x.ofStar(0, 3), 127);
        Due.due("count(8), none", x.count(8), 0);
        Due.due("count(9), none", x.count(9), 0);
        for (int navigator = 0; navigator < 7; navigator++) {
            LampLatitudes one = Rafts.withStars(0);
            one.sight(navigator, 0);
            Due.due("count(8), " + navigator + " alone", one.count(8), 1 << navigator);
            Rafts.anger(one, navigator, 3);
            Due.due("count(9), " + navigator + " alone", one.count(9), 1 << navigator);
            Due.due("ofStar(0, 3), all but " + navigator, one.ofStar(0, 3), 127 - (1 << navigator));
            x.sight(navigator, 0);
            Due.due("count(8), up to " + navigator, x.count(8), (2 << navigator) - 1);
            x.sleep(navigator);
            Due.due("ofStar(0, 3), above " + navigator, x.ofStar(0, 3), 128 - (2 << navigator));
        }
    }

    private static void constantsOfErrors() {
        Due.due("NO_SUCH", LampLatitudes.NO_SUCH, -1);
        Due.due("BAD_VALUE", LampLatitudes.BAD_VALUE, -2);
        Due.due("BAD_TEXT", LampLatitudes.BAD_TEXT, -3);
        Due.due("TOO_MANY", LampLatitudes.TOO_MANY, -4);
        Due.due("NOT_POSSIBLE", LampLatitudes.NOT_POSSIBLE, -5);
        Due.due("NONE", LampLatitudes.NONE, -6);
    }

    private static void constantsOfSettings() {
        Due.due("DRIFT", LampLatitudes.DRIFT, 0);
        Due.due("PULL", LampLatitudes.PULL, 1);
        Due.due("QUARREL", LampLatitudes.QUARREL, 2);
        Due.due("LOW", LampLatitudes.LOW, 3);
        int[] first = {34, 36, 90, 330};
        for (int setting = 0; setting < 4; setting++) {
            Due.due("set(" + setting + ", 1)", new LampLatitudes().set(setting, 1), first[setting]);
        }
    }

    private static void changes() {
        Rafts.dueOneChange("set()", x -> x.set(LampLatitudes.PULL, 9));
        Rafts.dueOneChange("star()", x -> x.star(7));
        Rafts.dueOneChange("cloud()", x -> x.cloud(0));
        Rafts.dueOneChange("navigator()", x -> x.navigator(3, 1, -7));
        Rafts.dueOneChange("sleep()", x -> x.sleep(3));
        Rafts.dueOneChange("goal()", x -> x.goal(-700));
        Rafts.dueOneChange("sight()", x -> x.sight(3, 0));
        Rafts.dueOneChange("agree()", LampLatitudes::agree);
        Rafts.dueOneChange("sail()", x -> x.sail(9));
        Rafts.dueOneChange("night()", LampLatitudes::night);
    }

    private static void whatThereIs() {
        LampLatitudes x = Rafts.amidst();
        String before = Due.portraitOfAll(x);
        Due.due("all that there is, once more", Due.portraitOfAll(x), before);
    }

    private static void whatIf() {
        LampLatitudes x = Rafts.amidst();
        String before = Due.portraitOfAll(x);
        for (int navigator = 0; navigator < 7; navigator++) {
            x.why(navigator, 0);
            x.ifSighted(navigator, 1);
            x.median(navigator);
        }
        x.median(LampLatitudes.NONE);
        x.bestStar();
        x.nearest(0);
        x.nearest(1);
        x.arrivesIn(0);
        x.arrivesIn(999);
        Due.due("all that there is, after the questions", Due.portraitOfAll(x), before);
    }

    /** Texts change the pad alone, until they are carried out. */
    private static void texts() {
        LampLatitudes x = Rafts.amidst();
        String before = Due.portrait(x);
        Due.due("put(;)", x.put(';'), 80);
        Due.due("fault()", x.fault(), 80);
        Due.due("wipe()", x.wipe(), 80);
        Due.due("carryOut()", x.carryOut(), LampLatitudes.BAD_TEXT);
        Due.due("put(n)", x.put('n'), 1);
        Due.due("the state after put(), fault() and wipe()", Due.portrait(x), before);
        Due.due("count(16)", x.count(16), 6);
        Due.due("carryOut()", x.carryOut(), 1);
        Due.due("count(4)", x.count(4), 2);
        Due.due("count(16)", x.count(16), 6);
    }

    private static void undoAndSaving() {
        LampLatitudes x = Rafts.withStars(4);
        Due.due("save(0)", x.save(0), 1);
        Due.due("count(16), saving is no change", x.count(16), 1);
        Due.due("undo()", x.undo(), 0);
        Due.due("count(16), neither is undoing", x.count(16), 0);
        Due.due("restore(0)", x.restore(0), 1);
        Due.due("count(16), but restoring is one", x.count(16), 1);
    }
}

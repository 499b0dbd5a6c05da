import java.util.function.ToIntFunction;

/** Rafts for the tests of the sentences, each brought to where a sentence has its edge. */
final class Rafts {
    static final int POLE = 5400;
    /** In a row of estimates: this navigator has none. */
    static final int NO_ESTIMATE = 9999;

    private Rafts() {
    }

    /** A raft at a latitude, that does not drift; all its hours so far are those of the way. */
    static LampLatitudes at(int latitude) {
        LampLatitudes x = new LampLatitudes();
        bring(x, latitude);
        return x;
    }

    /** Brings a raft that believes nothing from the latitude 0 to another one; it does not drift from then on. */
    static void bring(LampLatitudes x, int latitude) {
        int full = Math.abs(latitude) / 30;
        x.set(LampLatitudes.DRIFT, latitude < 0 ? -30 : 30);
        for (int left = full; left > 0; left -= 99) {
            x.sail(Math.min(99, left));
        }
        if (latitude % 30 != 0) {
            x.set(LampLatitudes.DRIFT, latitude % 30);
            x.sail(1);
        }
        x.set(LampLatitudes.DRIFT, 0);
        Due.due("the latitude of the raft", x.count(0), latitude + POLE);
    }

    /** A raft at the latitude 0 without stars, whose navigators from 0 on have the estimates that are wanted. */
    static LampLatitudes estimating(int... wanted) {
        LampLatitudes x = new LampLatitudes();
        estimate(x, wanted);
        return x;
    }

    /** The same for a raft that there is; it has to be at the latitude 0. */
    static void estimate(LampLatitudes x, int... wanted) {
        for (int navigator = 0; navigator < wanted.length; navigator++) {
            if (wanted[navigator] != NO_ESTIMATE) {
                estimateOne(x, navigator, wanted[navigator]);
            }
        }
    }

    /** Each estimate of -5400 to 5400, by a star half the way there. */
    static void estimateOne(LampLatitudes x, int navigator, int wanted) {
        int half = (Math.abs(wanted) + 1) / 2;
        x.navigator(navigator, 0, 9);
        x.navigator(navigator, 1, 2 * half - Math.abs(wanted));
        x.navigator(navigator, 2, wanted >= 0 ? 1 : 0);
        int star = starAt(x, wanted >= 0 ? half : -half);
        Due.due("sight(" + navigator + ", " + star + ") for " + wanted, x.sight(navigator, star), wanted + POLE);
    }

    private static int starAt(LampLatitudes x, int declination) {
        int told = 0;
        for (int star = 0; star < 8 && told >= 0; star++) {
            told = x.ofStar(star, 0);
            if (told == declination + POLE) {
                return star;
            }
        }
        return x.star(declination);
    }

    /** A raft at the latitude 0 that believes a latitude, and does not drift. */
    static LampLatitudes believing(int latitude) {
        LampLatitudes x = estimating(latitude, latitude, latitude);
        Due.due("agree()", x.agree(), latitude + POLE);
        x.set(LampLatitudes.DRIFT, 0);
        return x;
    }

    /** Makes a navigator angrier, by medians of 0 from which the navigator's estimate is 50 away. */
    static void anger(LampLatitudes x, int navigator, int times) {
        x.set(LampLatitudes.QUARREL, 49);
        for (int time = 0; time < times; time++) {
            estimateOne(x, (navigator + 1) % 7, 0);
            estimateOne(x, (navigator + 2) % 7, 0);
            estimateOne(x, navigator, 50);
            Due.due("agree()", x.agree(), POLE);
        }
        Due.due("the anger of " + navigator, x.of(navigator, 3), times);
    }

    /** Carries an order out so many times, with as many of them in a text as it has place for. */
    static void repeat(LampLatitudes x, String order, int times) {
        int most = 81 / (order.length() + 1);
        for (int left = times; left > 0; left -= most) {
            int now = Math.min(most, left);
            Due.due("carryOut() of " + now + " times " + order, Due.carryOut(x, row(order, now)), now);
        }
    }

    static String row(String order, int times) {
        StringBuilder text = new StringBuilder(order);
        for (int time = 1; time < times; time++) {
            text.append(';').append(order);
        }
        return text.toString();
    }

    static LampLatitudes withHours(int hours) {
        LampLatitudes x = new LampLatitudes();
        repeat(x, "s99", hours / 99);
        if (hours % 99 != 0) {
            x.sail(hours % 99);
        }
        Due.due("hours so far", x.count(3), hours);
        return x;
    }

    static LampLatitudes withNights(int nights) {
        LampLatitudes x = new LampLatitudes();
        repeat(x, "n", nights);
        Due.due("the night", x.count(4), nights);
        return x;
    }

    static LampLatitudes withStars(int... declinations) {
        LampLatitudes x = new LampLatitudes();
        for (int declination : declinations) {
            x.star(declination);
        }
        return x;
    }

    static LampLatitudes withPad(String text) {
        LampLatitudes x = new LampLatitudes();
        Due.putText(x, text);
        Due.due("the length of the pad", x.count(15), text.length());
        return x;
    }

    /**
     * A raft on which much has happened: the star 2 is too low and 3 behind clouds, but 0, 1, 4 and 5 are not; the
     * navigator 4 is asleep, with an estimate, 5 sulks, 6 is angry, and 0 to 2 have estimates; there is a line of the log,
     * a saved state in the slot 0, none in the slot 1, a full history, and a text of 79 characters.
     */
    static LampLatitudes amidst() {
        LampLatitudes x = new LampLatitudes();
        x.star(0);
        x.night();
        anger(x, 5, 3);
        anger(x, 6, 1);
        x.star(-5399);
        x.star(-200);
        x.cloud(3);
        estimate(x, 1, 2, 3);
        estimateOne(x, 4, 4);
        x.save(0);
        Due.putText(x, "s1;s2;s3;s4;s5;g+10;g-2;g+3;z0;z0;z1;z1;z2;z2;*+11;*-12;c0;c0;o00;o10;o20;m;n;n");
        x.goal(700);
        x.sail(7);
        x.set(LampLatitudes.QUARREL, 30);
        x.set(LampLatitudes.LOW, 10);
        x.set(LampLatitudes.DRIFT, -5);
        x.sleep(4);
        return x;
    }

    /** That a call is a change: recorded as one, undone whole, and recorded also if it is made once more. */
    static void dueOneChange(String call, ToIntFunction<LampLatitudes> change) {
        LampLatitudes x = amidst();
        x.undo();
        x.undo();
        String before = Due.portrait(x);
        Due.due(call + " is no error", change.applyAsInt(x) >= 0 ? 1 : 0, 1);
        Due.due("count(16) after " + call, x.count(16), 5);
        Due.due("undo() of " + call, x.undo(), 4);
        Due.due("the state after undo() of " + call, Due.portrait(x), before);
    }
}

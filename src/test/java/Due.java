/** What the tests have in common: they compare answers with those that are due, and end with 1 if one is wrong. */
final class Due {
    private static int right = 0;
    private static int wrong = 0;

    private Due() {
    }

    static void due(String call, long got, long want) {
        due(call, Long.toString(got), Long.toString(want));
    }

    static void due(String call, String got, String want) {
        if (got.equals(want)) {
            right++;
        } else {
            wrong++;
            System.out.println(call + " answered " + got + ", due is " + want);
        }
    }

    static void end() {
        System.out.println("answers: " + right + " right, " + wrong + " wrong");
        if (wrong != 0) {
            System.exit(1);
        }
    }

    /** All that can be read of the state that undo, save and restore are about. */
    static String portrait(LampLatitudes x) {
        StringBuilder all = new StringBuilder();
        for (int what = 0; what <= 14; what++) {
            all.append(x.count(what)).append(' ');
        }
        for (int navigator = 0; navigator < 7; navigator++) {
            all.append("| ");
            for (int what = 0; what <= 7; what++) {
                all.append(x.of(navigator, what)).append(' ');
            }
        }
        for (int star = 0; star < 8; star++) {
            all.append("| ");
            for (int what = 0; what <= 3; what++) {
                all.append(x.ofStar(star, what)).append(' ');
            }
        }
        for (int rank = 0; rank <= 8; rank++) {
            all.append("| ");
            for (int what = 0; what <= 3; what++) {
                all.append(x.log(rank, what)).append(' ');
            }
        }
        return all.toString();
    }

    /** The portrait, and all that stands beside it. */
    static String portraitOfAll(LampLatitudes x) {
        return portrait(x) + "| " + x.count(15) + " " + x.count(16) + " " + x.fault();
    }

    /** Up to 8 characters as the number that put() takes. */
    static long packed(String characters) {
        long number = 0;
        for (int i = 0; i < characters.length(); i++) {
            number = number << 8 | characters.charAt(i);
        }
        return number;
    }

    static void putText(LampLatitudes x, String text) {
        for (int from = 0; from < text.length(); from += 8) {
            x.put(packed(text.substring(from, Math.min(text.length(), from + 8))));
        }
    }

    static int carryOut(LampLatitudes x, String text) {
        putText(x, text);
        return x.carryOut();
    }

    static int faultOf(LampLatitudes x, String text) {
        x.wipe();
        putText(x, text);
        return x.fault();
    }

    /** A raft whose navigators measure without errors, below a star at the latitude 0. */
    static LampLatitudes skilled() {
        LampLatitudes x = new LampLatitudes();
        for (int navigator = 0; navigator < 7; navigator++) {
            x.navigator(navigator, 0, 9);
        }
        x.star(0);
        return x;
    }

    /** Gives a navigator without an error of measuring the estimate that is wanted, by a bias of -60 to 60. */
    static void estimate(LampLatitudes x, int navigator, int wanted) {
        x.navigator(navigator, 0, 9);
        x.navigator(navigator, 1, Math.abs(wanted));
        x.navigator(navigator, 2, wanted >= 0 ? 1 : 0);
        due("sight(" + navigator + ", 0) for " + wanted, x.sight(navigator, 0), wanted + 5400);
    }
}

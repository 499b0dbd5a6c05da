/** What the tests have in common: they compare answers with those that are due, and end with 1 if one is wrong. */
final class Due {
    private static final int SHORT = 60;
    private static final int MOST_MILLISECONDS = 300_000;
    private static int right = 0;
    private static int wrong = 0;
    private static String about = "";

    static {
        Thread watch = new Thread(Due::endOverdueTest);
        watch.setDaemon(true);
        watch.start();
    }

    private Due() {
    }

    /** A call that never ends must not keep the other tests waiting. */
    private static void endOverdueTest() {
        try {
            Thread.sleep(MOST_MILLISECONDS);
        } catch (InterruptedException interrupted) {
            return;
        }
        System.out.println(about + "a call does not end");
        Runtime.getRuntime().halt(1);
    }

    /** Words that stand before each wrong answer from now on. */
    static void about(String words) {
        about = words;
    }

    static int answers() {
        return right + wrong;
    }

    static void due(String call, long got, long want) {
        due(call, Long.toString(got), Long.toString(want));
    }

    static void due(String call, String got, String want) {
        if (got.equals(want)) {
            right++;
        } else {
            wrong++;
            int from = firstDifference(got, want);
            System.out.println(about + call + " answered " + part(got, from) + ", due is " + part(want, from));
        }
    }

    private static int firstDifference(String got, String want) {
        int at = 0;
        while (at < got.length() && at < want.length() && got.charAt(at) == want.charAt(at)) {
            at++;
        }
        return at;
    }

    /** Of a long answer only what stands around the first difference. */
    private static String part(String answer, int from) {
        if (answer.length() <= 2 * SHORT) {
            return answer;
        }
        int begin = Math.max(0, from - SHORT);
        return ".." + answer.substring(begin, Math.min(answer.length(), from + SHORT)) + ".. (at " + from + ")";
    }

    static void end() {
        System.out.println("answers: " + right + " right, " + wrong + " wrong");
        if (wrong != 0) {
            System.exit(1);
        }
    }

    /** The numbers of the state, in 15 calls: an object may be asked for its whole portrait three times, no more. */
    static String counts(LampLatitudes x) {
        StringBuilder all = new StringBuilder();
        for (int what = 0; what <= 14; what++) {
            all.append(x.count(what)).append(' ');
        }
        return all.toString();
    }

    /** All that can be read of the state that undo, save and restore are about, in 139 calls. */
    static String portrait(LampLatitudes x) {
        StringBuilder all = new StringBuilder(counts(x));
        for (int navigator = 0; navigator < 7; navigator++) {
            all.append("| ");
            for (int what = 0; what <= 7; what++) {
                all.append(x.of(navigator, what)).append(' ');
            }
        }
        for (int star = 0; star < 8; star++) {
            all.append("| ");
            for (int what = 0; what <= 3; what++) {
                all.append(x.ofStar(star, what)).append(' ');
            }
        }
        for (int rank = 0; rank <= 8; rank++) {
            all.append("| ");
            for (int what = 0; what <= 3; what++) {
                all.append(x.log(rank, what)).append(' ');
            }
        }
        return all.toString();
    }

    /** The portrait, and all that stands beside it. */
    static String portraitOfAll(LampLatitudes x) {
        return portrait(x) + "| " + x.count(15) + " " + x.count(16) + " " + x.fault();
    }

    /** Up to 8 characters as the number that put() takes. */
    static long packed(String characters) {
        long number = 0;
        for (int i = 0; i < characters.length(); i++) {
            number = number << 8 | characters.charAt(i);
        }
        return number;
    }

    static void putText(LampLatitudes x, String text) {
        for (int from = 0; from < text.length(); from += 8) {
            x.put(packed(text.substring(from, Math.min(text.length(), from + 8))));
        }
    }

    static int carryOut(LampLatitudes x, String text) {
        putText(x, text);
        return x.carryOut();
    }

    static int faultOf(LampLatitudes x, String text) {
        x.wipe();
        putText(x, text);
        return x.fault();
    }

    /** A raft whose navigators measure without errors, below a star at the latitude 0. */
    static LampLatitudes skilled() {
        LampLatitudes x = new LampLatitudes();
        for (int navigator = 0; navigator < 7; navigator++) {
            x.navigator(navigator, 0, 9);
        }
        x.star(0);
        return x;
    }

    /** Gives a navigator without an error of measuring the estimate that is wanted, by a bias of -60 to 60. */
    static void estimate(LampLatitudes x, int navigator, int wanted) {
        x.navigator(navigator, 0, 9);
        x.navigator(navigator, 1, Math.abs(wanted));
        x.navigator(navigator, 2, wanted >= 0 ? 1 : 0);
        due("sight(" + navigator + ", 0) for " + wanted, x.sight(navigator, 0), wanted + 5400);
    }
}

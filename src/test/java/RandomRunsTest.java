import java.util.Random;

/** All promises: long runs of calls, always the same ones, each compared with the answer of the model. */
public final class RandomRunsTest {
    private static final int RUNS = 400;
    private static final int CALLS = 512;
    private static final int[] EXTREMES = {Integer.MIN_VALUE, -5401, -61, -7, -6, -2, -1, 10, 100, 1801, 5401, Integer.MAX_VALUE};
    private static final String[] NAMES = {
        "set", "star", "cloud", "navigator", "sleep", "goal", "sight", "agree", "sail", "night", "of", "ofStar", "log",
        "count", "why", "ifSighted", "median", "bestStar", "nearest", "arrivesIn", "put", "wipe", "fault", "carryOut",
        "undo", "save", "restore",
    };
    /** How often each call is made, so that rafts come far: of 100 parts, about. */
    private static final int[] PARTS = {
        4, 3, 2, 4, 2, 2, 26, 7, 5, 2, 3, 2, 2, 4, 2, 3, 3, 2, 2, 3, 8, 1, 2, 4, 3, 1, 1,
    };

    private final Random random;
    private final LampLatitudes raft = new LampLatitudes();
    private final Model model = new Model();
    private String rest = "";

    private RandomRunsTest(int seed) {
        random = new Random(seed);
    }

    public static void main(String[] args) {
        for (int seed = 0; seed < RUNS; seed++) {
            new RandomRunsTest(seed).run(seed);
        }
        Due.end();
    }

    private void run(int seed) {
        for (int call = 0; call < CALLS; call++) {
            int method = method();
            int a = first(method);
            int b = second(method, a);
            int c = third(b);
            long characters = method == 20 ? characters() : 0;
            String told = "run " + seed + ", call " + call + ": " + NAMES[method] + "(" + a + ", " + b + ", " + c + ", "
                + characters + ")";
            Due.due(told, call(method, a, b, c, characters), model.call(method, a, b, c, characters));
        }
    }

    private int method() {
        int parts = 0;
        for (int part : PARTS) {
            parts += part;
        }
        int left = random.nextInt(parts);
        int method = 0;
        while (left >= PARTS[method]) {
            left -= PARTS[method];
            method++;
        }
        return method;
    }

    private int between(int least, int most) {
        return least + random.nextInt(most - least + 1);
    }

    private int extreme() {
        return EXTREMES[random.nextInt(EXTREMES.length)];
    }

    private int latitude() {
        return random.nextInt(6) == 0 ? between(-5400, 5400) : between(-150, 150);
    }

    private int first(int method) {
        if (random.nextInt(25) == 0) {
            return extreme();
        }
        switch (NAMES[method]) {
            case "set": return between(0, 3);
            case "star": case "goal": return latitude();
            case "cloud": case "ofStar": return between(0, 4);
            case "sail": return between(1, random.nextInt(5) == 0 ? 99 : 12);
            case "log": return between(0, 8);
            case "count": return between(0, 16);
            case "median": return random.nextBoolean() ? LampLatitudes.NONE : between(0, 6);
            case "nearest": case "save": case "restore": return between(0, 1);
            case "arrivesIn": return between(0, random.nextBoolean() ? 20 : 999);
            default: return between(0, 6);
        }
    }

    private int second(int method, int first) {
        if (random.nextInt(25) == 0) {
            return extreme();
        }
        switch (NAMES[method]) {
            case "set": return setting(first);
            case "navigator": return between(0, 2);
            case "of": return between(0, 7);
            default: return between(0, 3);
        }
    }

    private int setting(int setting) {
        switch (setting) {
            case 0: return between(-30, 30);
            case 1: return between(0, 30);
            case 2: return random.nextBoolean() ? between(1, 30) : between(1, 999);
            default: return between(0, 1800);
        }
    }

    private int third(int what) {
        if (random.nextInt(25) == 0) {
            return extreme();
        }
        return what == 0 ? between(0, 9) : what == 1 ? between(-60, 60) : between(0, 1);
    }

    /** Mostly the next characters of a text that can be carried out. */
    private long characters() {
        if (random.nextInt(30) == 0) {
            return random.nextLong() >>> random.nextInt(64);
        }
        while (rest.length() < 8) {
            rest += (rest.isEmpty() && model.padLength() == 0 ? "" : ";") + order();
        }
        String next = rest.substring(0, between(1, 8));
        rest = random.nextInt(4) == 0 ? "" : rest.substring(next.length());
        return Due.packed(next);
    }

    private String order() {
        String sign = random.nextBoolean() ? "+" : "-";
        switch (between(0, 11)) {
            case 0: return "*" + sign + Math.abs(latitude());
            case 1: return "c" + between(0, 4);
            case 2: return "m";
            case 3: return "s" + between(1, 99);
            case 4: return "n";
            case 5: return "z" + between(0, 7);
            case 6: return "g" + sign + Math.abs(latitude());
            default: return "o" + between(0, 6) + between(0, 2);
        }
    }

    private int call(int method, int a, int b, int c, long characters) {
        switch (method) {
            case 0: return raft.set(a, b);
            case 1: return raft.star(a);
            case 2: return raft.cloud(a);
            case 3: return raft.navigator(a, b, c);
            case 4: return raft.sleep(a);
            case 5: return raft.goal(a);
            case 6: return raft.sight(a, b);
            case 7: return raft.agree();
            case 8: return raft.sail(a);
            case 9: return raft.night();
            case 10: return raft.of(a, b);
            case 11: return raft.ofStar(a, b);
            case 12: return raft.log(a, b);
            case 13: return raft.count(a);
            case 14: return raft.why(a, b);
            case 15: return raft.ifSighted(a, b);
            case 16: return raft.median(a);
            case 17: return raft.bestStar();
            case 18: return raft.nearest(a);
            case 19: return raft.arrivesIn(a);
            case 20: return raft.put(characters);
            case 21: return raft.wipe();
            case 22: return raft.fault();
            case 23: return raft.carryOut();
            case 24: return raft.undo();
            case 25: return raft.save(a);
            default: return raft.restore(a);
        }
    }
}

import java.util.Random;
import java.util.regex.Matcher;
import java.util.regex.Pattern;

/** Promises 22, 23 and 24: put, wipe and fault. */
public final class PadTest {
    private static final String NUMBER = "(0|[1-9][0-9]{0,3})";
    private static final String ORDER =
        "([*][+-]" + NUMBER + "|c[0-9]|o[0-9][0-9]|m|s" + NUMBER + "|n|z[0-9]|g[+-]" + NUMBER + ")";
    private static final Pattern TEXT = Pattern.compile(ORDER + "(;" + ORDER + ")*");
    private static final String SIGNS = "*+-;0123456789comsnzgx";

    public static void main(String[] args) {
        puts();
        wrongPuts();
        fullPad();
        faults();
        faultsByPattern();
        Due.end();
    }

    private static void puts() {
        LampLatitudes x = new LampLatitudes();
        Due.due("wipe(), empty", x.wipe(), 0);
        Due.due("put(m)", x.put('m'), 1);
        Due.due("fault()", x.fault(), LampLatitudes.NONE);
        Due.due("put(;s12)", x.put(Due.packed(";s12")), 5);
        Due.due("fault()", x.fault(), LampLatitudes.NONE);
        Due.due("put(3;o01;n;)", x.put(Due.packed("3;o01;n;")), 13);
        Due.due("fault()", x.fault(), 13);
        Due.due("put(z)", x.put('z'), 14);
        Due.due("count(15)", x.count(15), 14);
        Due.due("count(16)", x.count(16), 0);
        Due.due("wipe()", x.wipe(), 14);
        Due.due("wipe()", x.wipe(), 0);
        Due.due("fault(), empty", x.fault(), 0);
        Due.due("put(33)", x.put(33), 1);
        Due.due("put(126)", x.put(126), 2);
        Due.due("put(8 of 126)", x.put(Due.packed("~~~~~~~~")), 10);
        Due.due("fault()", x.fault(), 0);
    }

    private static void wrongPuts() {
        LampLatitudes x = new LampLatitudes();
        x.put(Due.packed("m;"));
        long m = 'm';
        long[] wrong = {
            0, 32, 127, 128, 255, -1, Long.MIN_VALUE, Long.MAX_VALUE,
            m << 8, m << 16 | m, m << 56, m << 56 | m, 1L << 63 | m, 1L << 8 | m, 31L << 8 | m,
            m << 8 | 32, 127L << 8 | m, 255L << 56 | Due.packed("mmmmmmm"), 32L << 56 | Due.packed("mmmmmmm"),
            m << 8 | m << 32, Due.packed("mmmmmm\u007fm"),
        };
        for (long characters : wrong) {
            Due.due("put(" + characters + ")", x.put(characters), LampLatitudes.BAD_VALUE);
        }
        Due.due("count(15)", x.count(15), 2);
        Due.due("put(n)", x.put('n'), 3);
        Due.due("fault()", x.fault(), LampLatitudes.NONE);
    }

    private static void fullPad() {
        LampLatitudes x = new LampLatitudes();
        for (int time = 1; time <= 9; time++) {
            Due.due("put() " + time, x.put(Due.packed("m;m;m;m;")), 8 * time);
        }
        Due.due("put(), 79", x.put(Due.packed("m;m;m;m")), 79);
        Due.due("fault()", x.fault(), LampLatitudes.NONE);
        Due.due("put(), 81", x.put(Due.packed(";m")), LampLatitudes.TOO_MANY);
        Due.due("put(), a wrong one", x.put('m' << 8), LampLatitudes.BAD_VALUE);
        Due.due("fault()", x.fault(), LampLatitudes.NONE);
        Due.due("put(), 80", x.put(';'), 80);
        Due.due("fault(), too early an end", x.fault(), 80);
        Due.due("put(), 81", x.put('m'), LampLatitudes.TOO_MANY);
        Due.due("put(), 88", x.put(Due.packed("mmmmmmmm")), LampLatitudes.TOO_MANY);
        Due.due("wipe()", x.wipe(), 80);
        Due.due("put(m)", x.put('m'), 1);
        Due.due("fault(), nothing is left of the old text", x.fault(), LampLatitudes.NONE);
    }

    private static void faults() {
        Object[] dues = {
            "m", -6, "n", -6, "c0", -6, "c9", -6, "z7", -6, "o09", -6, "s0", -6, "s9999", -6, "*+0", -6, "*-0", -6,
            "*-9999", -6, "g+5400", -6, "g-1", -6, "m;n;c1;z2;o34;s56;*+78;g-9", -6,
            "", 0, "*", 1, "*+", 2, "*-", 2, "g", 1, "g-", 2, "c", 1, "o", 1, "o1", 2, "s", 1, "z", 1, "m;", 2, "s12;", 4,
            ";", 0, "x", 0, "mm", 1, "m;;", 2, "m;m;x", 4, "c10", 2, "cx", 1, "o1x", 2, "ox1", 1, "o123", 3, "z-", 1,
            "s+1", 1, "s-", 1, "s00", 2, "s01", 2, "s10000", 5, "s99990", 5, "s9999;", 6, "s1x", 2, "s;", 1,
            "*1", 1, "*+00", 3, "*+x", 2, "*-12345", 6, "*+1+", 3, "g5", 1, "g+05", 3, "g-00", 3, "g+10000", 6,
            "M", 0, "m,n", 1, "n1", 1, "m;o", 3, "m;s", 3, "0", 0, "+", 0,
        };
        LampLatitudes x = new LampLatitudes();
        for (int i = 0; i < dues.length; i += 2) {
            String text = (String) dues[i];
            Due.due("fault() of " + text, Due.faultOf(x, text), (Integer) dues[i + 1]);
        }
    }

    /** Many texts, each nearly right, against a pattern of the language of the library. */
    private static void faultsByPattern() {
        Random random = new Random(7);
        int right = 0;
        for (int run = 0; run < 20000; run++) {
            String text = nearlyRight(random);
            int due = faultByPattern(text);
            right += due == LampLatitudes.NONE ? 1 : 0;
            Due.due("fault() of " + text, Due.faultOf(new LampLatitudes(), text), due);
        }
        Due.due("right texts, too", right > 2000 ? 1 : 0, 1);
    }

    private static int faultByPattern(String text) {
        for (int end = 1; end <= text.length(); end++) {
            Matcher matcher = TEXT.matcher(text.substring(0, end));
            if (!matcher.matches() && !matcher.hitEnd()) {
                return end - 1;
            }
        }
        return TEXT.matcher(text).matches() ? LampLatitudes.NONE : text.length();
    }

    private static String nearlyRight(Random random) {
        StringBuilder text = new StringBuilder();
        int orders = 1 + random.nextInt(8);
        for (int order = 0; order < orders; order++) {
            text.append(order == 0 ? "" : ";").append(order(random));
        }
        int changes = random.nextInt(3);
        for (int change = 0; change < changes && text.length() > 0; change++) {
            int at = random.nextInt(text.length());
            char sign = SIGNS.charAt(random.nextInt(SIGNS.length()));
            switch (random.nextInt(4)) {
                case 0: text.setCharAt(at, sign); break;
                case 1: text.insert(at, sign); break;
                case 2: text.deleteCharAt(at); break;
                default: text.setLength(at); break;
            }
        }
        return text.substring(0, Math.min(80, text.length()));
    }

    private static String order(Random random) {
        int number = random.nextInt(4) == 0 ? random.nextInt(3) : random.nextInt(12000);
        String side = random.nextBoolean() ? "+" : "-";
        switch (random.nextInt(8)) {
            case 0: return "*" + side + number;
            case 1: return "c" + random.nextInt(10);
            case 2: return "o" + random.nextInt(10) + random.nextInt(10);
            case 3: return "m";
            case 4: return "s" + number;
            case 5: return "n";
            case 6: return "z" + random.nextInt(10);
            default: return "g" + side + number;
        }
    }
}

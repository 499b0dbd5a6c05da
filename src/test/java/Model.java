import java.util.ArrayDeque;
import java.util.ArrayList;
import java.util.Collections;
import java.util.Deque;
import java.util.List;
import java.util.regex.Matcher;
import java.util.regex.Pattern;

/** The document once more, by other means: states that are copied whole, lists that are sorted, texts by patterns. */
final class Model {
    private static final String NUMBER = "(?:0|[1-9][0-9]{0,3})";
    private static final String ORDER =
        "(?:[*][+-]" + NUMBER + "|c[0-9]|o[0-9][0-9]|m|s" + NUMBER + "|n|z[0-9]|g[+-]" + NUMBER + ")";
    private static final Pattern TEXT = Pattern.compile(ORDER + "(?:;" + ORDER + ")*");
    private static final int[][] RANGES = {{-30, 30}, {0, 30}, {1, 999}, {0, 1800}};
    private static final int[][] TRAITS = {{0, 9}, {-60, 60}, {0, 1}};

    private static final class Navigator {
        int[] traits = {5, 0, 1};
        int anger;
        int sights;
        Integer estimate;
        int how;

        Navigator copy() {
            Navigator copy = new Navigator();
            copy.traits = traits.clone();
            copy.anger = anger;
            copy.sights = sights;
            copy.estimate = estimate;
            copy.how = how;
            return copy;
        }
    }

    private static final class State {
        int[] settings = {4, 6, 60, 300};
        List<Integer> stars = new ArrayList<>();
        List<Integer> clouds = new ArrayList<>();
        List<Navigator> crew = new ArrayList<>();
        List<int[]> log = new ArrayList<>();
        int latitude;
        Integer belief;
        int goal;
        int hours;
        int night;
        int medians;
        int tooFar;

        State copy() {
            State copy = new State();
            copy.settings = settings.clone();
            copy.stars.addAll(stars);
            copy.clouds.addAll(clouds);
            for (Navigator one : crew) {
                copy.crew.add(one.copy());
            }
            copy.log.addAll(log);
            copy.latitude = latitude;
            copy.belief = belief;
            copy.goal = goal;
            copy.hours = hours;
            copy.night = night;
            copy.medians = medians;
            copy.tooFar = tooFar;
            return copy;
        }
    }

    private State now = new State();
    private final Deque<State> history = new ArrayDeque<>();
    private final State[] slots = new State[2];
    private String pad = "";

    Model() {
        for (int navigator = 0; navigator < 7; navigator++) {
            now.crew.add(new Navigator());
        }
    }

    int padLength() {
        return pad.length();
    }

    /** Makes a call by its number, as RandomRunsTest numbers them. */
    int call(int method, int a, int b, int c, long characters) {
        if (method == 23) {
            return carryOut();
        }
        State before = now.copy();
        int answer = method <= 9 ? change(method, a, b, c) : answer(method, a, b, characters);
        boolean isChange = method <= 9 || method == 26;
        if (isChange && answer >= 0) {
            record(before);
        }
        return answer;
    }

    private void record(State before) {
        history.addLast(before);
        if (history.size() > 6) {
            history.removeFirst();
        }
    }

    private int change(int method, int a, int b, int c) {
        switch (method) {
            case 0: return set(a, b);
            case 1: return star(a);
            case 2: return cloud(a);
            case 3: return navigator(a, b, c);
            case 4: return sleep(a);
            case 5: return goal(a);
            case 6: return sight(a, b);
            case 7: return agree();
            case 8: return sail(a);
            default: return night();
        }
    }

    private int answer(int method, int a, int b, long characters) {
        switch (method) {
            case 10: return of(a, b);
            case 11: return ofStar(a, b);
            case 12: return log(a, b);
            case 13: return count(a);
            case 14: return why(a, b);
            case 15: return ifSighted(a, b);
            case 16: return median(a);
            case 17: return bestStar();
            case 18: return nearest(a);
            case 19: return arrivesIn(a);
            case 20: return put(characters);
            case 21: return wipe();
            case 22: return fault();
            case 24: return undo();
            case 25: return save(a);
            default: return restore(a);
        }
    }

    private static boolean within(int value, int least, int most) {
        return least <= value && value <= most;
    }

    private static int clamp(int latitude) {
        return latitude > 5400 ? 5400 : latitude < -5400 ? -5400 : latitude;
    }

    private boolean isNavigator(int navigator) {
        return within(navigator, 0, 6);
    }

    private boolean isStar(int star) {
        return within(star, 0, now.stars.size() - 1);
    }

    private int height(int star) {
        return 5400 - Math.abs(now.stars.get(star) - now.latitude);
    }

    private int error(int navigator) {
        Navigator one = now.crew.get(navigator);
        return one.traits[1] + (9 - one.traits[0]) * ((3 * navigator + 7 * one.sights) % 11 - 5);
    }

    private int set(int setting, int value) {
        if (!within(setting, 0, 3) || !within(value, RANGES[setting][0], RANGES[setting][1])) {
            return -2;
        }
        int previous = now.settings[setting];
        now.settings[setting] = value;
        return previous + 30;
    }

    private int star(int declination) {
        if (!within(declination, -5400, 5400)) {
            return -2;
        }
        if (now.stars.size() == 8) {
            return -4;
        }
        now.stars.add(declination);
        return now.stars.size() - 1;
    }

    private int cloud(int star) {
        if (!isStar(star)) {
            return -1;
        }
        if (now.clouds.remove((Integer) star)) {
            return 0;
        }
        now.clouds.add(star);
        return 1;
    }

    private int navigator(int navigator, int what, int value) {
        if (!isNavigator(navigator)) {
            return -1;
        }
        if (!within(what, 0, 2) || !within(value, TRAITS[what][0], TRAITS[what][1])) {
            return -2;
        }
        int previous = now.crew.get(navigator).traits[what];
        now.crew.get(navigator).traits[what] = value;
        return previous + 60;
    }

    private int sleep(int navigator) {
        if (!isNavigator(navigator)) {
            return -1;
        }
        Navigator one = now.crew.get(navigator);
        if (one.how == 2) {
            return -5;
        }
        one.how = 1 - one.how;
        return one.how;
    }

    private int goal(int latitude) {
        if (!within(latitude, -5400, 5400)) {
            return -2;
        }
        int previous = now.goal;
        now.goal = latitude;
        return previous + 5400;
    }

    private int sight(int navigator, int star) {
        int answer = ifSighted(navigator, star);
        if (answer >= 0) {
            now.crew.get(navigator).estimate = answer - 5400;
            now.crew.get(navigator).sights++;
        }
        return answer;
    }

    private List<Integer> takingPart(int without) {
        List<Integer> those = new ArrayList<>();
        for (int navigator = 0; navigator < 7; navigator++) {
            Navigator one = now.crew.get(navigator);
            if (navigator != without && one.how == 0 && one.estimate != null) {
                those.add(navigator);
            }
        }
        return those;
    }

    private int agree() {
        int answer = median(-6);
        if (answer < 0) {
            return answer;
        }
        now.belief = answer - 5400;
        for (int navigator : takingPart(-6)) {
            Navigator one = now.crew.get(navigator);
            boolean far = Math.abs(one.estimate - now.belief) > now.settings[2];
            one.anger = far ? one.anger + 1 : 0;
            now.tooFar += far ? 1 : 0;
            one.how = one.anger >= 3 ? 2 : 0;
            one.estimate = null;
        }
        now.medians++;
        return answer;
    }

    private static void sailAnHour(State state) {
        if (state.belief != null) {
            int way = state.goal - state.belief;
            int steered = Integer.signum(way) * Math.min(Math.abs(way), state.settings[1]);
            state.latitude = clamp(state.latitude + steered);
            state.belief += steered;
        }
        state.latitude = clamp(state.latitude + state.settings[0]);
        state.hours++;
    }

    private int sail(int hours) {
        if (!within(hours, 1, 99)) {
            return -2;
        }
        if (now.hours + hours > 9999) {
            return -5;
        }
        for (int hour = 0; hour < hours; hour++) {
            sailAnHour(now);
        }
        return now.latitude + 5400;
    }

    private int night() {
        if (now.night == 999) {
            return -5;
        }
        int believed = now.belief == null ? -6 : now.belief + 5400;
        now.log.add(0, new int[] {now.night, now.latitude + 5400, believed, now.tooFar});
        if (now.log.size() > 8) {
            now.log.remove(8);
        }
        for (Navigator one : now.crew) {
            one.estimate = null;
            one.anger = one.how == 2 ? 0 : one.anger;
            one.how = one.how == 2 ? 0 : one.how;
        }
        now.tooFar = 0;
        now.night++;
        return now.night;
    }

    private int of(int navigator, int what) {
        if (!isNavigator(navigator)) {
            return -1;
        }
        if (!within(what, 0, 7)) {
            return -2;
        }
        Navigator one = now.crew.get(navigator);
        int estimate = one.estimate == null ? -6 : one.estimate + 5400;
        return new int[] {one.traits[0], one.traits[1] + 60, one.traits[2], one.anger, one.sights, estimate, one.how,
            error(navigator) + 999}[what];
    }

    private int ofStar(int star, int what) {
        if (!isStar(star)) {
            return -1;
        }
        if (!within(what, 0, 3)) {
            return -2;
        }
        int set = 0;
        for (int navigator = 0; navigator < 7; navigator++) {
            set += why(navigator, star) == 0 ? (int) Math.pow(2, navigator) : 0;
        }
        return new int[] {now.stars.get(star) + 5400, now.clouds.contains(star) ? 1 : 0, height(star) + 5400, set}[what];
    }

    private int log(int rank, int what) {
        if (!within(rank, 0, now.log.size() - 1)) {
            return -1;
        }
        return within(what, 0, 3) ? now.log.get(rank)[what] : -2;
    }

    private int count(int what) {
        if (!within(what, 0, 16)) {
            return -2;
        }
        int sights = 0;
        int estimates = 0;
        int sulking = 0;
        for (int navigator = 6; navigator >= 0; navigator--) {
            Navigator one = now.crew.get(navigator);
            sights += one.sights;
            estimates = 2 * estimates + (one.estimate == null ? 0 : 1);
            sulking = 2 * sulking + (one.how == 2 ? 1 : 0);
        }
        int believed = now.belief == null ? -6 : now.belief + 5400;
        int mistaken = now.belief == null ? -6 : Math.abs(now.belief - now.latitude);
        return new int[] {now.latitude + 5400, believed, now.goal + 5400, now.hours, now.night, sights, now.medians,
            now.tooFar, estimates, sulking, mistaken, now.settings[0] + 30, now.settings[1], now.settings[2],
            now.settings[3], pad.length(), history.size()}[what];
    }

    private int why(int navigator, int star) {
        if (!isNavigator(navigator) || !isStar(star)) {
            return -1;
        }
        int how = now.crew.get(navigator).how;
        return how != 0 ? how : now.clouds.contains(star) ? 3 : height(star) < now.settings[3] ? 4 : 0;
    }

    private int ifSighted(int navigator, int star) {
        int reason = why(navigator, star);
        if (reason != 0) {
            return reason == -1 ? -1 : -5;
        }
        int off = Math.abs(height(star) + error(navigator) - 5400);
        int sign = now.crew.get(navigator).traits[2] == 1 ? 1 : -1;
        return clamp(now.stars.get(star) + sign * off) + 5400;
    }

    private int median(int navigator) {
        if (navigator != -6 && !isNavigator(navigator)) {
            return -1;
        }
        List<Integer> estimates = new ArrayList<>();
        for (int one : takingPart(navigator)) {
            estimates.add(now.crew.get(one).estimate);
        }
        Collections.sort(estimates);
        return estimates.size() < 3 ? -5 : estimates.get((estimates.size() - 1) / 2) + 5400;
    }

    private int bestStar() {
        int best = -6;
        for (int star = now.stars.size() - 1; star >= 0; star--) {
            boolean seen = !now.clouds.contains(star) && height(star) >= now.settings[3];
            best = seen && (best == -6 || height(star) >= height(best)) ? star : best;
        }
        return best;
    }

    private int nearest(int what) {
        if (!within(what, 0, 1)) {
            return -2;
        }
        for (int far = 0; far <= 10800; far++) {
            for (int navigator = 0; navigator < 7; navigator++) {
                Integer estimate = now.crew.get(navigator).estimate;
                if (estimate != null && Math.abs(estimate - now.latitude) == far) {
                    return what == 0 ? navigator : far;
                }
            }
        }
        return -6;
    }

    private int arrivesIn(int minutes) {
        if (!within(minutes, 0, 999)) {
            return -2;
        }
        State later = now.copy();
        int hours = 0;
        while (hours <= 500 && Math.abs(later.latitude - later.goal) > minutes) {
            sailAnHour(later);
            hours++;
        }
        return hours <= 500 ? hours : -6;
    }

    private int put(long characters) {
        StringBuilder text = new StringBuilder();
        boolean ended = false;
        for (int shift = 0; shift < 64; shift += 8) {
            int code = (int) (characters >>> shift & 255);
            if (code != 0 && (ended || !within(code, 33, 126))) {
                return -2;
            }
            ended |= code == 0;
            if (!ended) {
                text.insert(0, (char) code);
            }
        }
        if (text.length() == 0) {
            return -2;
        }
        if (pad.length() + text.length() > 80) {
            return -4;
        }
        pad += text;
        return pad.length();
    }

    private int wipe() {
        int length = pad.length();
        pad = "";
        return length;
    }

    private int fault() {
        for (int end = 1; end <= pad.length(); end++) {
            Matcher matcher = TEXT.matcher(pad.substring(0, end));
            if (!matcher.matches() && !matcher.hitEnd()) {
                return end - 1;
            }
        }
        return TEXT.matcher(pad).matches() ? -6 : pad.length();
    }

    private int carryOut() {
        if (fault() != -6) {
            return -3;
        }
        record(now.copy());
        int done = 0;
        for (String order : pad.split(";")) {
            if (obey(order) < 0) {
                break;
            }
            done++;
        }
        pad = "";
        return done;
    }

    private int obey(String order) {
        String rest = order.substring(1);
        int number = rest.isEmpty() ? 0 : Integer.parseInt(rest);
        switch (order.charAt(0)) {
            case '*': return star(number);
            case 'c': return cloud(number);
            case 'o': return sight(number / 10, number % 10);
            case 'm': return agree();
            case 's': return sail(number);
            case 'n': return night();
            case 'z': return sleep(number);
            default: return goal(number);
        }
    }

    private int undo() {
        if (history.isEmpty()) {
            return -5;
        }
        now = history.removeLast();
        return history.size();
    }

    private int save(int slot) {
        if (!within(slot, 0, 1)) {
            return -2;
        }
        slots[slot] = now.copy();
        return now.stars.size();
    }

    private int restore(int slot) {
        if (!within(slot, 0, 1)) {
            return -2;
        }
        if (slots[slot] == null) {
            return -5;
        }
        now = slots[slot].copy();
        return now.stars.size();
    }
}

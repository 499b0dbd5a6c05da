/** Seven navigators on one raft sight stars, quarrel over their latitude, and sail by the median. */
public final class LampLatitudes {
    public static final int NO_SUCH = -1, BAD_VALUE = -2, BAD_TEXT = -3, TOO_MANY = -4, NOT_POSSIBLE = -5, NONE = -6;
    public static final int DRIFT = 0, PULL = 1, QUARREL = 2, LOW = 3;

    private static final int POLE = 5400;
    /** Stands for a latitude that there is not: no estimate, or nothing believed. */
    private static final int NOWHERE = 9999;
    private static final int SETTINGS = 4;
    private static final int NAVIGATORS = 7;
    private static final int STARS = 8;
    private static final int SLOTS = 2;
    private static final int PAD_COUNT = 15;
    private static final int HISTORY_COUNT = 16;

    private final Voyage voyage = new Voyage();
    private final History history = new History();
    private final Pad pad = new Pad();
    private final Voyage[] slots = new Voyage[SLOTS];
    private final boolean[] saved = new boolean[SLOTS];
    /** arrivesIn() sails on this copy, so that the raft itself stays where it is. */
    private final Course trial = new Course();

    public LampLatitudes() {
        for (int slot = 0; slot < SLOTS; slot++) {
            slots[slot] = new Voyage();
        }
    }

    // ---- changes: the history holds the state ahead of each one, and keeps it if no error comes back

    public int set(int setting, int value) {
        history.hold(voyage);
        return history.keepUnlessError(voyage.changeSetting(setting, value));
    }

    public int star(int declination) {
        history.hold(voyage);
        return history.keepUnlessError(voyage.addStar(declination));
    }

    public int cloud(int star) {
        history.hold(voyage);
        return history.keepUnlessError(voyage.turnCloud(star));
    }

    public int navigator(int navigator, int what, int value) {
        history.hold(voyage);
        return history.keepUnlessError(voyage.changeNavigator(navigator, what, value));
    }

    public int sleep(int navigator) {
        history.hold(voyage);
        return history.keepUnlessError(voyage.turnSleep(navigator));
    }

    public int goal(int latitude) {
        history.hold(voyage);
        return history.keepUnlessError(voyage.changeGoal(latitude));
    }

    public int sight(int navigator, int star) {
        history.hold(voyage);
        return history.keepUnlessError(voyage.takeSight(navigator, star));
    }

    public int agree() {
        history.hold(voyage);
        return history.keepUnlessError(voyage.agreeOnMedian());
    }

    public int sail(int hours) {
        history.hold(voyage);
        return history.keepUnlessError(voyage.sailHours(hours));
    }

    public int night() {
        history.hold(voyage);
        return history.keepUnlessError(voyage.endNight());
    }

    // ---- what there is

    public int of(int navigator, int what) {
        return isNavigator(navigator) ? voyage.crew.factOf(navigator, what) : NO_SUCH;
    }

    public int ofStar(int star, int what) {
        return voyage.sky.hasStar(star) ? voyage.factOfStar(star, what) : NO_SUCH;
    }

    public int log(int rank, int what) {
        return voyage.factOfLog(rank, what);
    }

    public int count(int what) {
        if (what == PAD_COUNT) {
            return pad.length;
        }
        if (what == HISTORY_COUNT) {
            return history.kept;
        }
        return voyage.numberOf(what);
    }

    // ---- what if; nothing changes

    public int why(int navigator, int star) {
        return voyage.reasonAgainst(navigator, star);
    }

    public int ifSighted(int navigator, int star) {
        return voyage.tellSight(navigator, star);
    }

    public int median(int navigator) {
        if (navigator != NONE && !isNavigator(navigator)) {
            return NO_SUCH;
        }
        int middle = voyage.crew.middleWithout(navigator);
        return middle == NOWHERE ? NOT_POSSIBLE : middle + POLE;
    }

    public int bestStar() {
        return voyage.highestStar();
    }

    public int nearest(int what) {
        return voyage.nearestNavigator(what);
    }

    public int arrivesIn(int minutes) {
        return voyage.hoursToGoal(minutes, trial);
    }

    // ---- texts

    public int put(long characters) {
        return pad.append(characters);
    }

    public int wipe() {
        return pad.clear();
    }

    public int fault() {
        return pad.findFault();
    }

    public int carryOut() {
        if (pad.findFault() != NONE) {
            return BAD_TEXT;
        }
        history.hold(voyage);
        pad.startReading();
        int carriedOut = 0;
        while (carriedOut < Pad.MOST_SIGNS && pad.readOrder() && obeyOrder() >= 0) {
            carriedOut++;
            pad.skipSemicolon();
        }
        pad.clear();
        return history.keepUnlessError(carriedOut);
    }

    // ---- undo, saving

    public int undo() {
        return history.takeBack(voyage);
    }

    public int save(int slot) {
        if (!isSlot(slot)) {
            return BAD_VALUE;
        }
        slots[slot].copyFrom(voyage);
        saved[slot] = true;
        return voyage.sky.stars;
    }

    public int restore(int slot) {
        if (!isSlot(slot)) {
            return BAD_VALUE;
        }
        if (!saved[slot]) {
            return NOT_POSSIBLE;
        }
        history.hold(voyage);
        voyage.copyFrom(slots[slot]);
        return history.keepUnlessError(voyage.sky.stars);
    }

    // ---- helpers

    /** Obeys the order that the pad has just read; the history is not asked, as one change holds all of a text. */
    private int obeyOrder() {
        switch (pad.kind) {
            case '*':
                return voyage.addStar(pad.first);
            case 'c':
                return voyage.turnCloud(pad.first);
            case 'o':
                return voyage.takeSight(pad.first, pad.second);
            case 'm':
                return voyage.agreeOnMedian();
            case 's':
                return voyage.sailHours(pad.first);
            case 'n':
                return voyage.endNight();
            case 'z':
                return voyage.turnSleep(pad.first);
            case 'g':
                return voyage.changeGoal(pad.first);
            default:
                return BAD_TEXT;
        }
    }

    private static boolean isNavigator(int navigator) {
        return navigator >= 0 && navigator < NAVIGATORS;
    }

    private static boolean isSlot(int slot) {
        return slot >= 0 && slot < SLOTS;
    }

    private static boolean isOnEarth(int latitude) {
        return latitude >= -POLE && latitude <= POLE;
    }

    private static int keptOnEarth(int latitude) {
        return Math.max(-POLE, Math.min(POLE, latitude));
    }

    private static int toldLatitude(int latitude) {
        return latitude == NOWHERE ? NONE : latitude + POLE;
    }

    /** The stars, and the clouds before them. */
    private static final class Sky {
        int stars = 0;
        /** The stars behind clouds, as a set. */
        int clouded = 0;
        final int[] declination = new int[STARS];

        void copyFrom(Sky other) {
            stars = other.stars;
            clouded = other.clouded;
            System.arraycopy(other.declination, 0, declination, 0, STARS);
        }

        boolean hasStar(int star) {
            return star >= 0 && star < stars;
        }

        int cloudBefore(int star) {
            return clouded >> star & 1;
        }
    }

    /** The navigators: each row has a place for each of them. */
    private static final class Crew {
        static final int AWAKE = 0, ASLEEP = 1, SULKS = 2;
        static final int BEST_SKILL = 9;
        static final int BIAS_OFFSET = 60;
        static final int ERROR_OFFSET = 999;
        static final int NORTH = 1;
        static final int LEAST_TO_AGREE = 3;
        static final int ANGER_THAT_SULKS = 3;

        final int[] skill = new int[NAVIGATORS];
        final int[] bias = new int[NAVIGATORS];
        final int[] side = new int[NAVIGATORS];
        final int[] anger = new int[NAVIGATORS];
        final int[] sights = new int[NAVIGATORS];
        final int[] estimate = new int[NAVIGATORS];
        final int[] how = new int[NAVIGATORS];

        Crew() {
            for (int navigator = 0; navigator < NAVIGATORS; navigator++) {
                skill[navigator] = 5;
                side[navigator] = NORTH;
                estimate[navigator] = NOWHERE;
            }
        }

        void copyFrom(Crew other) {
            System.arraycopy(other.skill, 0, skill, 0, NAVIGATORS);
            System.arraycopy(other.bias, 0, bias, 0, NAVIGATORS);
            System.arraycopy(other.side, 0, side, 0, NAVIGATORS);
            System.arraycopy(other.anger, 0, anger, 0, NAVIGATORS);
            System.arraycopy(other.sights, 0, sights, 0, NAVIGATORS);
            System.arraycopy(other.estimate, 0, estimate, 0, NAVIGATORS);
            System.arraycopy(other.how, 0, how, 0, NAVIGATORS);
        }

        int factOf(int navigator, int what) {
            switch (what) {
                case 0:
                    return skill[navigator];
                case 1:
                    return bias[navigator] + BIAS_OFFSET;
                case 2:
                    return side[navigator];
                case 3:
                    return anger[navigator];
                case 4:
                    return sights[navigator];
                case 5:
                    return toldLatitude(estimate[navigator]);
                case 6:
                    return how[navigator];
                case 7:
                    return errorOfNextSight(navigator) + ERROR_OFFSET;
                default:
                    return BAD_VALUE;
            }
        }

        int errorOfNextSight(int navigator) {
            int wobble = (3 * navigator + 7 * sights[navigator]) % 11 - 5;
            return bias[navigator] + (BEST_SKILL - skill[navigator]) * wobble;
        }

        /** The median of those who take part, but for one who is absent (NONE: nobody); NOWHERE if too few do. */
        int middleWithout(int absent) {
            int many = 0;
            for (int navigator = 0; navigator < NAVIGATORS; navigator++) {
                if (navigator != absent && takesPart(navigator)) {
                    many++;
                }
            }
            if (many < LEAST_TO_AGREE) {
                return NOWHERE;
            }
            for (int navigator = 0; navigator < NAVIGATORS; navigator++) {
                if (navigator != absent && takesPart(navigator) && rankWithout(navigator, absent) == (many - 1) / 2) {
                    return estimate[navigator];
                }
            }
            return NOWHERE;
        }

        /** How many of those who take part stand before a navigator when they are sorted by their estimates. */
        private int rankWithout(int navigator, int absent) {
            int rank = 0;
            for (int other = 0; other < NAVIGATORS; other++) {
                if (other != absent && takesPart(other) && standsBefore(other, navigator)) {
                    rank++;
                }
            }
            return rank;
        }

        /** Of two with the same estimate the lower number stands before the other: so no two have one rank. */
        private boolean standsBefore(int other, int navigator) {
            return estimate[other] < estimate[navigator]
                || estimate[other] == estimate[navigator] && other < navigator;
        }

        private boolean takesPart(int navigator) {
            return how[navigator] == AWAKE && estimate[navigator] != NOWHERE;
        }

        /** Those who took part in a median are angry or calm then, without estimates; tells how many are too far off. */
        int quarrelOver(int middle, int quarrel) {
            int tooFar = 0;
            for (int navigator = 0; navigator < NAVIGATORS; navigator++) {
                if (takesPart(navigator)) {
                    if (Math.abs(estimate[navigator] - middle) > quarrel) {
                        makeAngrier(navigator);
                        tooFar++;
                    } else {
                        anger[navigator] = 0;
                    }
                    estimate[navigator] = NOWHERE;
                }
            }
            return tooFar;
        }

        private void makeAngrier(int navigator) {
            anger[navigator]++;
            if (anger[navigator] >= ANGER_THAT_SULKS) {
                how[navigator] = SULKS;
            }
        }

        void endNight() {
            for (int navigator = 0; navigator < NAVIGATORS; navigator++) {
                estimate[navigator] = NOWHERE;
                if (how[navigator] == SULKS) {
                    how[navigator] = AWAKE;
                    anger[navigator] = 0;
                }
            }
        }

        int sightsOfAll() {
            int all = 0;
            for (int navigator = 0; navigator < NAVIGATORS; navigator++) {
                all += sights[navigator];
            }
            return all;
        }

        int thoseWithEstimate() {
            int set = 0;
            for (int navigator = 0; navigator < NAVIGATORS; navigator++) {
                if (estimate[navigator] != NOWHERE) {
                    set |= 1 << navigator;
                }
            }
            return set;
        }

        int thoseWhoSulk() {
            int set = 0;
            for (int navigator = 0; navigator < NAVIGATORS; navigator++) {
                if (how[navigator] == SULKS) {
                    set |= 1 << navigator;
                }
            }
            return set;
        }
    }

    /** Where the raft is, where it believes to be, and where it wants to go. */
    private static final class Course {
        int latitude = 0;
        int belief = NOWHERE;
        int goal = 0;
        int hours = 0;

        void copyFrom(Course other) {
            latitude = other.latitude;
            belief = other.belief;
            goal = other.goal;
            hours = other.hours;
        }

        /** Each step is kept on the earth by itself: the raft is never beyond a pole, not even within an hour. */
        void sailOneHour(int drift, int pull) {
            if (belief != NOWHERE) {
                int steered = Math.max(-pull, Math.min(pull, goal - belief));
                latitude = keptOnEarth(latitude + steered);
                belief = keptOnEarth(belief + steered);
            }
            latitude = keptOnEarth(latitude + drift);
            hours++;
        }

        int distanceToGoal() {
            return Math.abs(goal - latitude);
        }

        int mistake() {
            return belief == NOWHERE ? NONE : Math.abs(belief - latitude);
        }
    }

    /** The lines of the latest nights, as they are told: night, latitude, belief, how many were too far off. */
    private static final class Logbook {
        static final int LINES = 8;
        static final int FACTS = 4;

        final int[] cells = new int[LINES * FACTS];

        void copyFrom(Logbook other) {
            System.arraycopy(other.cells, 0, cells, 0, LINES * FACTS);
        }

        void write(int night, int latitude, int belief, int tooFar) {
            int place = night % LINES * FACTS;
            cells[place] = night;
            cells[place + 1] = latitude;
            cells[place + 2] = belief;
            cells[place + 3] = tooFar;
        }

        int read(int night, int what) {
            return cells[night % LINES * FACTS + what];
        }
    }

    /** All that undo, save and restore are about, and the rules by which it changes. */
    private static final class Voyage {
        static final int[] LEAST_SETTING = {-30, 0, 1, 0};
        static final int[] MOST_SETTING = {30, 30, 999, 1800};
        static final int[] FIRST_SETTING = {4, 6, 60, 300};
        static final int SETTING_OFFSET = 30;
        static final int TRAITS = 3;
        static final int[] LEAST_TRAIT = {0, -60, 0};
        static final int[] MOST_TRAIT = {9, 60, 1};
        static final int TRAIT_OFFSET = 60;
        static final int LAST_NIGHT = 999;
        static final int MOST_HOURS = 9999;
        static final int MOST_HOURS_AT_ONCE = 99;
        static final int HOURS_AHEAD = 500;
        static final int MOST_MINUTES = 999;

        final int[] settings = new int[SETTINGS];
        final Sky sky = new Sky();
        final Crew crew = new Crew();
        final Course course = new Course();
        final Logbook logbook = new Logbook();
        int night = 0;
        int medians = 0;
        int tooFarThisNight = 0;

        Voyage() {
            System.arraycopy(FIRST_SETTING, 0, settings, 0, SETTINGS);
        }

        void copyFrom(Voyage other) {
            System.arraycopy(other.settings, 0, settings, 0, SETTINGS);
            sky.copyFrom(other.sky);
            crew.copyFrom(other.crew);
            course.copyFrom(other.course);
            logbook.copyFrom(other.logbook);
            night = other.night;
            medians = other.medians;
            tooFarThisNight = other.tooFarThisNight;
        }

        int changeSetting(int setting, int value) {
            if (setting < 0 || setting >= SETTINGS
                || value < LEAST_SETTING[setting] || value > MOST_SETTING[setting]) {
                return BAD_VALUE;
            }
            int before = settings[setting];
            settings[setting] = value;
            return before + SETTING_OFFSET;
        }

        int addStar(int declination) {
            if (!isOnEarth(declination)) {
                return BAD_VALUE;
            }
            if (sky.stars >= STARS) {
                return TOO_MANY;
            }
            sky.declination[sky.stars] = declination;
            sky.stars++;
            return sky.stars - 1;
        }

        int turnCloud(int star) {
            if (!sky.hasStar(star)) {
                return NO_SUCH;
            }
            sky.clouded ^= 1 << star;
            return sky.cloudBefore(star);
        }

        int changeNavigator(int navigator, int what, int value) {
            if (!isNavigator(navigator)) {
                return NO_SUCH;
            }
            if (what < 0 || what >= TRAITS || value < LEAST_TRAIT[what] || value > MOST_TRAIT[what]) {
                return BAD_VALUE;
            }
            int[] trait = what == 0 ? crew.skill : what == 1 ? crew.bias : crew.side;
            int before = trait[navigator];
            trait[navigator] = value;
            return before + TRAIT_OFFSET;
        }

        int turnSleep(int navigator) {
            if (!isNavigator(navigator)) {
                return NO_SUCH;
            }
            if (crew.how[navigator] == Crew.SULKS) {
                return NOT_POSSIBLE;
            }
            crew.how[navigator] = crew.how[navigator] == Crew.ASLEEP ? Crew.AWAKE : Crew.ASLEEP;
            return crew.how[navigator] == Crew.ASLEEP ? 1 : 0;
        }

        int changeGoal(int latitude) {
            if (!isOnEarth(latitude)) {
                return BAD_VALUE;
            }
            int before = course.goal;
            course.goal = latitude;
            return before + POLE;
        }

        int takeSight(int navigator, int star) {
            int told = tellSight(navigator, star);
            if (told >= 0) {
                crew.estimate[navigator] = told - POLE;
                crew.sights[navigator]++;
            }
            return told;
        }

        /** What a sight would answer: the estimate that it would give, or its error. */
        int tellSight(int navigator, int star) {
            int reason = reasonAgainst(navigator, star);
            if (reason < 0) {
                return reason;
            }
            return reason > 0 ? NOT_POSSIBLE : reckon(navigator, star) + POLE;
        }

        int reasonAgainst(int navigator, int star) {
            if (!isNavigator(navigator) || !sky.hasStar(star)) {
                return NO_SUCH;
            }
            if (crew.how[navigator] == Crew.ASLEEP) {
                return 1;
            }
            if (crew.how[navigator] == Crew.SULKS) {
                return 2;
            }
            if (sky.cloudBefore(star) == 1) {
                return 3;
            }
            return heightOf(star) < settings[LOW] ? 4 : 0;
        }

        private int reckon(int navigator, int star) {
            int measured = heightOf(star) + crew.errorOfNextSight(navigator);
            int away = Math.abs(POLE - measured);
            int declination = sky.declination[star];
            return keptOnEarth(crew.side[navigator] == Crew.NORTH ? declination + away : declination - away);
        }

        private int heightOf(int star) {
            return POLE - Math.abs(sky.declination[star] - course.latitude);
        }

        int agreeOnMedian() {
            int middle = crew.middleWithout(NONE);
            if (middle == NOWHERE) {
                return NOT_POSSIBLE;
            }
            course.belief = middle;
            tooFarThisNight += crew.quarrelOver(middle, settings[QUARREL]);
            medians++;
            return middle + POLE;
        }

        int sailHours(int hours) {
            if (hours < 1 || hours > MOST_HOURS_AT_ONCE) {
                return BAD_VALUE;
            }
            if (course.hours + hours > MOST_HOURS) {
                return NOT_POSSIBLE;
            }
            for (int hour = 0; hour < hours; hour++) {
                course.sailOneHour(settings[DRIFT], settings[PULL]);
            }
            return course.latitude + POLE;
        }

        int endNight() {
            if (night >= LAST_NIGHT) {
                return NOT_POSSIBLE;
            }
            logbook.write(night, course.latitude + POLE, toldLatitude(course.belief), tooFarThisNight);
            crew.endNight();
            tooFarThisNight = 0;
            night++;
            return night;
        }

        int factOfStar(int star, int what) {
            switch (what) {
                case 0:
                    return sky.declination[star] + POLE;
                case 1:
                    return sky.cloudBefore(star);
                case 2:
                    return heightOf(star) + POLE;
                case 3:
                    return thoseWhoCanSight(star);
                default:
                    return BAD_VALUE;
            }
        }

        private int thoseWhoCanSight(int star) {
            int set = 0;
            for (int navigator = 0; navigator < NAVIGATORS; navigator++) {
                if (reasonAgainst(navigator, star) == 0) {
                    set |= 1 << navigator;
                }
            }
            return set;
        }

        /** Each night has left a line, so the nights so far tell which lines there are. */
        int factOfLog(int rank, int what) {
            if (rank < 0 || rank >= Math.min(night, Logbook.LINES)) {
                return NO_SUCH;
            }
            if (what < 0 || what >= Logbook.FACTS) {
                return BAD_VALUE;
            }
            return logbook.read(night - 1 - rank, what);
        }

        int numberOf(int what) {
            switch (what) {
                case 0:
                    return course.latitude + POLE;
                case 1:
                    return toldLatitude(course.belief);
                case 2:
                    return course.goal + POLE;
                case 3:
                    return course.hours;
                case 4:
                    return night;
                case 5:
                    return crew.sightsOfAll();
                case 6:
                    return medians;
                case 7:
                    return tooFarThisNight;
                case 8:
                    return crew.thoseWithEstimate();
                case 9:
                    return crew.thoseWhoSulk();
                case 10:
                    return course.mistake();
                case 11:
                    return settings[DRIFT] + SETTING_OFFSET;
                case 12:
                    return settings[PULL];
                case 13:
                    return settings[QUARREL];
                case 14:
                    return settings[LOW];
                default:
                    return BAD_VALUE;
            }
        }

        int highestStar() {
            int highest = NONE;
            for (int star = 0; star < sky.stars; star++) {
                boolean canBeSeen = sky.cloudBefore(star) == 0 && heightOf(star) >= settings[LOW];
                if (canBeSeen && (highest == NONE || heightOf(star) > heightOf(highest))) {
                    highest = star;
                }
            }
            return highest;
        }

        int nearestNavigator(int what) {
            if (what != 0 && what != 1) {
                return BAD_VALUE;
            }
            int nearest = NONE;
            int distance = NONE;
            for (int navigator = 0; navigator < NAVIGATORS; navigator++) {
                if (crew.estimate[navigator] != NOWHERE) {
                    int off = Math.abs(crew.estimate[navigator] - course.latitude);
                    if (nearest == NONE || off < distance) {
                        nearest = navigator;
                        distance = off;
                    }
                }
            }
            return what == 0 ? nearest : distance;
        }

        int hoursToGoal(int minutes, Course trial) {
            if (minutes < 0 || minutes > MOST_MINUTES) {
                return BAD_VALUE;
            }
            trial.copyFrom(course);
            for (int hours = 0; hours <= HOURS_AHEAD; hours++) {
                if (trial.distanceToGoal() <= minutes) {
                    return hours;
                }
                trial.sailOneHour(settings[DRIFT], settings[PULL]);
            }
            return NONE;
        }
    }

    /** The states before the latest changes, in a ring with one place more, for a state that is only held. */
    private static final class History {
        static final int MOST_KEPT = 6;
        static final int PLACES = MOST_KEPT + 1;

        final Voyage[] places = new Voyage[PLACES];
        int oldest = 0;
        int kept = 0;

        History() {
            for (int place = 0; place < PLACES; place++) {
                places[place] = new Voyage();
            }
        }

        void hold(Voyage before) {
            places[(oldest + kept) % PLACES].copyFrom(before);
        }

        /** Hands an answer on; if it is no error, what is held belongs to the history from now on. */
        int keepUnlessError(int answer) {
            if (answer >= 0) {
                if (kept < MOST_KEPT) {
                    kept++;
                } else {
                    oldest = (oldest + 1) % PLACES;
                }
            }
            return answer;
        }

        int takeBack(Voyage now) {
            if (kept == 0) {
                return NOT_POSSIBLE;
            }
            kept--;
            now.copyFrom(places[(oldest + kept) % PLACES]);
            return kept;
        }
    }

    /** The text of orders, and what was read of it last. */
    private static final class Pad {
        static final int MOST_SIGNS = 80;
        static final int SIGNS_AT_ONCE = 8;
        static final int MOST_DIGITS = 4;
        static final int NO_DIGIT = -1;

        final char[] signs = new char[MOST_SIGNS];
        int length = 0;
        /** Where the next sign is read. */
        int at = 0;
        /** The order that was read last: its first sign, and its digits or its number. */
        int kind = 0;
        int first = 0;
        int second = 0;

        int append(long characters) {
            int many = countSigns(characters);
            if (many == 0) {
                return BAD_VALUE;
            }
            if (length + many > MOST_SIGNS) {
                return TOO_MANY;
            }
            for (int sign = 0; sign < many; sign++) {
                signs[length + sign] = (char) (characters >>> 8 * (many - 1 - sign) & 255);
            }
            length += many;
            return length;
        }

        /** How many characters there are, or 0 if one cannot stand on the pad (a 0 below others cannot either). */
        private static int countSigns(long characters) {
            int many = 0;
            long rest = characters;
            while (many < SIGNS_AT_ONCE && rest != 0) {
                long code = rest & 255;
                if (code < 33 || code > 126) {
                    return 0;
                }
                rest >>>= 8;
                many++;
            }
            return many;
        }

        int clear() {
            int before = length;
            length = 0;
            return before;
        }

        int findFault() {
            startReading();
            for (int orders = 0; orders < MOST_SIGNS && readOrder(); orders++) {
                if (at >= length) {
                    return NONE;
                }
                if (signs[at] != ';') {
                    return at;
                }
                at++;
            }
            return at;
        }

        void startReading() {
            at = 0;
        }

        void skipSemicolon() {
            if (nextSign() == ';') {
                at++;
            }
        }

        /** Reads an order; if none stands there, false, and the next sign is the one that cannot stand there. */
        boolean readOrder() {
            kind = nextSign();
            switch (kind) {
                case 'm':
                case 'n':
                    at++;
                    return true;
                case 'c':
                case 'z':
                    at++;
                    first = readDigit();
                    return first != NO_DIGIT;
                case 'o':
                    at++;
                    return readTwoDigits();
                case 's':
                    at++;
                    first = readNumber();
                    return first != NO_DIGIT;
                case '*':
                case 'g':
                    at++;
                    return readSignedNumber();
                default:
                    return false;
            }
        }

        private boolean readTwoDigits() {
            first = readDigit();
            if (first == NO_DIGIT) {
                return false;
            }
            second = readDigit();
            return second != NO_DIGIT;
        }

        private boolean readSignedNumber() {
            char sign = nextSign();
            if (sign != '+' && sign != '-') {
                return false;
            }
            at++;
            int number = readNumber();
            first = sign == '-' ? -number : number;
            return number != NO_DIGIT;
        }

        /** A digit behind a 0, or behind four digits, is no part of the number, so nothing can stand there but ";". */
        private int readNumber() {
            int number = readDigit();
            for (int digits = 1; digits < MOST_DIGITS && number > 0 && isDigit(nextSign()); digits++) {
                number = 10 * number + readDigit();
            }
            return number;
        }

        private int readDigit() {
            char sign = nextSign();
            if (!isDigit(sign)) {
                return NO_DIGIT;
            }
            at++;
            return sign - '0';
        }

        private static boolean isDigit(char sign) {
            return sign >= '0' && sign <= '9';
        }

        /** The next sign, or the sign 0, which no pad holds, at the end of the text. */
        private char nextSign() {
            return at < length ? signs[at] : (char) 0;
        }
    }
}

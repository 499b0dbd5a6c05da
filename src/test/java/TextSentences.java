/** The sentences about texts: the term, and the promises 22 to 25. */
final class TextSentences {
    private static final String DIGITS = "0123456789";
    private static final String STARTS = "*comsnzg";
    /** Texts, each with the characters that can stand behind it; "." among them tells that it can end there, too. */
    private static final String[][] NEXT = {
        {"", STARTS}, {"m;", STARTS}, {"s12;", STARTS}, {"o12;n;", STARTS},
        {"m", ".;"}, {"n", ".;"}, {"m;n", ".;"},
        {"c", DIGITS}, {"c0", ".;"}, {"c9", ".;"}, {"z", DIGITS}, {"z0", ".;"}, {"z9", ".;"},
        {"o", DIGITS}, {"o0", DIGITS}, {"o9", DIGITS}, {"o00", ".;"}, {"o99", ".;"},
        {"s", DIGITS}, {"s0", ".;"}, {"s1", ".;" + DIGITS}, {"s99", ".;" + DIGITS}, {"s100", ".;" + DIGITS},
        {"s999", ".;" + DIGITS}, {"s1000", ".;"}, {"s9999", ".;"},
        {"*", "+-"}, {"*+", DIGITS}, {"*-", DIGITS}, {"*+0", ".;"}, {"*-0", ".;"}, {"*+9", ".;" + DIGITS},
        {"*-54", ".;" + DIGITS}, {"*+540", ".;" + DIGITS}, {"*-5400", ".;"}, {"*+9999", ".;"},
        {"g", "+-"}, {"g+", DIGITS}, {"g-", DIGITS}, {"g+0", ".;"}, {"g-0", ".;"}, {"g-1", ".;" + DIGITS},
        {"g+10", ".;" + DIGITS}, {"g-999", ".;" + DIGITS}, {"g+1000", ".;"}, {"g-9999", ".;"},
    };

    private TextSentences() {
    }

    static void run(Book book) {
        book.sentence("Texts", "The pad is a text of at most 80 characters, a row of orders:", TextSentences::atMost80);
        book.sentence("Texts", "text = order { \";\" order }", TextSentences::rowsOfOrders);
        book.sentence("Texts", "order = \"*\" ( \"+\" | \"-\" ) number", () -> dueNexts("*"));
        book.sentence("Texts", "\"c\" digit", () -> dueNexts("c"));
        book.sentence("Texts", "\"o\" digit digit", () -> dueNexts("o"));
        book.sentence("Texts", "\"m\" |", () -> dueNexts("m"));
        book.sentence("Texts", "\"s\" number", () -> dueNexts("s"));
        book.sentence("Texts", "\"n\" |", () -> dueNexts("n"));
        book.sentence("Texts", "\"z\" digit", () -> dueNexts("z"));
        book.sentence("Texts", "\"g\" ( \"+\" | \"-\" ) number", () -> dueNexts("g"));
        book.sentence("Texts", "\"*\": star() with a declination to the north or the south", TextSentences::starOrders);
        book.sentence("Texts", "\"c\": cloud() of a star", TextSentences::cloudOrders);
        book.sentence("Texts", "\"o\": sight() of a navigator at a star", TextSentences::sightOrders);
        book.sentence("Texts", "\"m\": agree()", TextSentences::agreeOrders);
        book.sentence("Texts", "\"s\": sail()", TextSentences::sailOrders);
        book.sentence("Texts", "\"n\": night()", TextSentences::nightOrders);
        book.sentence("Texts", "\"z\": sleep() of a navigator", TextSentences::sleepOrders);
        book.sentence("Texts", "\"g\": goal()", TextSentences::goalOrders);
        book.sentence("Texts", "A digit is 0 to 9", TextSentences::digits);
        book.sentence("Texts", "a number 0 to 9999, without leading zeros", TextSentences::numbers);
        book.sentence("Texts", "The fault is the index of the first character that cannot stand at its place when the text is read"
            + " from left to right", TextSentences::firstFault);
        book.sentence("Texts", "(also of a digit by which a number would be above 9999)", TextSentences::fifthDigits);
        book.sentence("Texts", "if there is none and the text ends too early (also if it is empty), it is the length of the text",
            TextSentences::tooEarlyAnEnd);
        runPromises(book);
    }

    private static void runPromises(Book book) {
        book.sentence("Promise 22", "Appends characters to the pad.", TextSentences::appends);
        book.sentence("Promise 22", "They are given as a number: its lowest 8 bits are the last character, the next 8 bits the one"
            + " before, and so on", TextSentences::orderOfCharacters);
        book.sentence("Promise 22", "8 bits that are 0 mean that there are no more characters, and everything above them has to be"
            + " 0, too.", TextSentences::zeroBits);
        book.sentence("Promise 22", "`characters`: 1 to 8 characters", TextSentences::oneToEight);
        book.sentence("Promise 22", "Returns the length of the pad then", TextSentences::lengthThen);
        book.sentence("Promise 22", "BAD_VALUE if there is no character", TextSentences::noCharacter);
        book.sentence("Promise 22", "a code is not 33 to 126", TextSentences::codes);
        book.sentence("Promise 22", "or a bit above 8 bits that are 0 is not 0", TextSentences::bitsAboveZeros);
        book.sentence("Promise 22", "TOO_MANY if the pad would be longer than 80", TextSentences::tooLong);
        book.sentence("Promise 23", "Empties the pad, and returns the length that it had.", TextSentences::wipes);
        book.sentence("Promise 24", "Returns the fault of the pad, NONE if there is none.", TextSentences::faults);
        book.sentence("Promise 25", "Carries the orders of the pad out, one after the other", TextSentences::oneAfterTheOther);
        book.sentence("Promise 25", "up to the first one that returns an error", TextSentences::upToAnError);
        book.sentence("Promise 25", "and empties the pad", TextSentences::emptiesThePad);
        book.sentence("Promise 25", "This is a change (one, with all of them; also if none is carried out).",
            TextSentences::oneChange);
        book.sentence("Promise 25", "Returns how many orders were carried out", TextSentences::howMany);
        book.sentence("Promise 25", "BAD_TEXT if the pad has a fault (then it stays)", TextSentences::faultyTextsStay);
    }

    private static void atMost80() {
        LampLatitudes x = Rafts.withPad("z1;".repeat(26) + "z1");
        Due.due("fault() of 80 characters", x.fault(), LampLatitudes.NONE);
        Due.due("put(), an 81st one", x.put(';'), LampLatitudes.TOO_MANY);
        Due.due("fault(), nothing is appended", x.fault(), LampLatitudes.NONE);
        Due.due("carryOut() of 80 characters", x.carryOut(), 27);
        Due.due("of(1, 6)", x.of(1, 6), 1);
    }

    private static void rowsOfOrders() {
        dueFault("n", LampLatitudes.NONE);
        dueFault("n;n", LampLatitudes.NONE);
        dueFault("n;c0;o00;m;s0;z0;*+0;g-0", LampLatitudes.NONE);
        dueFault("g-0;*+0;z0;s0;m;o00;c0;n", LampLatitudes.NONE);
        dueFault(Rafts.row("m", 40), LampLatitudes.NONE);
        dueFault(";", 0);
        dueFault(";n", 0);
        dueFault("n;;n", 2);
        dueFault("nn", 1);
        dueFault("n,n", 1);
        dueFault("n;", 2);
        dueFault(Rafts.row("m", 40) + ";", 80);
        dueNexts("");
    }

    private static void dueFault(String text, int fault) {
        Due.due("fault() of \"" + text + "\"", Rafts.withPad(text).fault(), fault);
    }

    /** Behind each text that begins so: every character there is, alone, and with more of the text behind it. */
    private static void dueNexts(String begin) {
        for (String[] next : NEXT) {
            if (begin.isEmpty() ? next[1].equals(STARTS) : next[0].startsWith(begin)) {
                dueFault(next[0], next[1].contains(".") ? LampLatitudes.NONE : next[0].length());
                for (char sign = 33; sign <= 126; sign++) {
                    if (sign == '.' || next[1].indexOf(sign) < 0) {
                        dueFault(next[0] + sign, next[0].length());
                        dueFault(next[0] + sign + ";n", next[0].length());
                        dueFault("o12;n;" + next[0] + sign, 6 + next[0].length());
                    } else {
                        int fault = Rafts.withPad(next[0] + sign).fault();
                        Due.due("no fault before the end of \"" + next[0] + sign + "\"",
                            fault == LampLatitudes.NONE || fault == next[0].length() + 1 ? 1 : 0, 1);
                    }
                }
            }
        }
    }

    private static int carriedOut(LampLatitudes x, String text) {
        x.wipe();
        return Due.carryOut(x, text);
    }

    private static void starOrders() {
        LampLatitudes x = new LampLatitudes();
        String[] orders = {"*+0", "*-0", "*+5400", "*-5400", "*+1", "*-1", "*+5399", "*-10"};
        int[] declinations = {0, 0, 5400, -5400, 1, -1, 5399, -10};
        for (int star = 0; star < 8; star++) {
            Due.due("carryOut() of " + orders[star], carriedOut(x, orders[star]), 1);
            Due.due("ofStar(" + star + ", 0)", x.ofStar(star, 0), declinations[star] + 5400);
        }
        Due.due("carryOut() of a ninth star", carriedOut(x, "*+0"), 0);
        Due.due("carryOut() of *+5401", carriedOut(new LampLatitudes(), "*+5401"), 0);
        Due.due("carryOut() of *-5401", carriedOut(new LampLatitudes(), "*-5401"), 0);
        Due.due("carryOut() of *-9999", carriedOut(new LampLatitudes(), "*-9999"), 0);
    }

    private static void cloudOrders() {
        LampLatitudes x = Rafts.withStars(0, 1, 2, 3, 4, 5, 6, 7);
        for (int star = 0; star < 8; star++) {
            Due.due("carryOut() of c" + star, carriedOut(x, "c" + star), 1);
            Due.due("ofStar(" + star + ", 1)", x.ofStar(star, 1), 1);
        }
        Due.due("carryOut() of c7", carriedOut(x, "c7"), 1);
        Due.due("ofStar(7, 1), clouds away", x.ofStar(7, 1), 0);
        Due.due("carryOut() of c8", carriedOut(x, "c8"), 0);
        Due.due("carryOut() of c9", carriedOut(x, "c9"), 0);
        Due.due("carryOut() of c0 without stars", carriedOut(new LampLatitudes(), "c0"), 0);
    }

    private static void sightOrders() {
        LampLatitudes x = Rafts.withStars(0, 0, 0, 0, 0, 0, 0, 100);
        LampLatitudes y = Rafts.withStars(0, 0, 0, 0, 0, 0, 0, 100);
        for (int navigator = 0; navigator < 7; navigator++) {
            Due.due("carryOut() of o" + navigator + "7", carriedOut(x, "o" + navigator + "7"), 1);
            Due.due("of(" + navigator + ", 5)", x.of(navigator, 5), y.sight(navigator, 7));
        }
        Due.due("carryOut() of o06", carriedOut(x, "o06"), 1);
        Due.due("of(0, 5), of another star", x.of(0, 5), 5408);
        Due.due("carryOut() of o70", carriedOut(x, "o70"), 0);
        Due.due("carryOut() of o08", carriedOut(x, "o08"), 0);
        Due.due("carryOut() of o99", carriedOut(x, "o99"), 0);
        x.cloud(5);
        Due.due("carryOut() of o05, behind clouds", carriedOut(x, "o05"), 0);
        Due.due("count(5)", x.count(5), 8);
    }

    private static void agreeOrders() {
        LampLatitudes x = Rafts.estimating(5, 6);
        Due.due("carryOut() of m, too few", carriedOut(x, "m"), 0);
        Rafts.estimateOne(x, 2, 7);
        Due.due("carryOut() of m", carriedOut(x, "m"), 1);
        Due.due("count(1)", x.count(1), 5406);
        Due.due("count(8)", x.count(8), 0);
    }

    private static void sailOrders() {
        LampLatitudes x = new LampLatitudes();
        Due.due("carryOut() of s1", carriedOut(x, "s1"), 1);
        Due.due("count(3)", x.count(3), 1);
        Due.due("carryOut() of s99", carriedOut(x, "s99"), 1);
        Due.due("count(3)", x.count(3), 100);
        Due.due("count(0)", x.count(0), 5800);
        for (String order : new String[] {"s0", "s100", "s9999"}) {
            Due.due("carryOut() of " + order, carriedOut(x, order), 0);
        }
        Due.due("carryOut() of an hour too much", carriedOut(Rafts.withHours(9999), "s1"), 0);
        Due.due("count(3)", x.count(3), 100);
    }

    private static void nightOrders() {
        LampLatitudes x = new LampLatitudes();
        Due.due("carryOut() of n", carriedOut(x, "n"), 1);
        Due.due("count(4)", x.count(4), 1);
        Due.due("log(0, 0)", x.log(0, 0), 0);
        Due.due("carryOut() of a night too much", carriedOut(Rafts.withNights(999), "n"), 0);
    }

    private static void sleepOrders() {
        LampLatitudes x = new LampLatitudes();
        for (int navigator = 0; navigator < 7; navigator++) {
            Due.due("carryOut() of z" + navigator, carriedOut(x, "z" + navigator), 1);
            Due.due("of(" + navigator + ", 6)", x.of(navigator, 6), 1);
        }
        Due.due("carryOut() of z6", carriedOut(x, "z6"), 1);
        Due.due("of(6, 6), awake again", x.of(6, 6), 0);
        Due.due("carryOut() of z7", carriedOut(x, "z7"), 0);
        Due.due("carryOut() of z9", carriedOut(x, "z9"), 0);
        LampLatitudes sulking = new LampLatitudes();
        Rafts.anger(sulking, 3, 3);
        Due.due("carryOut() of z3, who sulks", carriedOut(sulking, "z3"), 0);
    }

    private static void goalOrders() {
        LampLatitudes x = new LampLatitudes();
        String[] orders = {"g+5400", "g-5400", "g+1", "g-1", "g-0", "g+0"};
        int[] goals = {5400, -5400, 1, -1, 0, 0};
        for (int i = 0; i < orders.length; i++) {
            Due.due("carryOut() of " + orders[i], carriedOut(x, orders[i]), 1);
            Due.due("count(2)", x.count(2), goals[i] + 5400);
        }
        for (String order : new String[] {"g+5401", "g-5401", "g+9999"}) {
            Due.due("carryOut() of " + order, carriedOut(x, order), 0);
        }
        Due.due("count(2)", x.count(2), 5400);
    }

    private static void digits() {
        for (char digit = '0'; digit <= '9'; digit++) {
            dueFault("c" + digit, LampLatitudes.NONE);
            dueFault("z" + digit, LampLatitudes.NONE);
            dueFault("o" + digit + digit, LampLatitudes.NONE);
            dueFault("s" + digit, LampLatitudes.NONE);
        }
        for (char sign : new char[] {'/', ':', '+', '-', '!', '~', 'a'}) {
            dueFault("c" + sign, 1);
            dueFault("z" + sign, 1);
            dueFault("o" + sign, 1);
            dueFault("o1" + sign, 2);
            dueFault("s" + sign, 1);
            dueFault("s1" + sign, 2);
            dueFault("*+" + sign, 2);
            dueFault("g-" + sign, 2);
        }
    }

    private static void numbers() {
        for (String before : new String[] {"s", "*+", "*-", "g+", "g-"}) {
            for (String number : new String[] {"0", "1", "9", "10", "99", "100", "999", "1000", "9999"}) {
                dueFault(before + number, LampLatitudes.NONE);
                dueFault(before + number + ";m", LampLatitudes.NONE);
            }
            for (String number : new String[] {"00", "01", "09", "0000", "0123"}) {
                dueFault(before + number, before.length() + 1);
            }
            dueFault(before + "10000", before.length() + 4);
            dueFault(before, before.length());
        }
        LampLatitudes x = new LampLatitudes();
        for (int goal : new int[] {0, 9, 10, 99, 100, 999, 1000, 4321, 5400}) {
            Due.due("carryOut() of g-" + goal, carriedOut(x, "g-" + goal), 1);
            Due.due("count(2)", x.count(2), 5400 - goal);
        }
    }

    private static void firstFault() {
        dueFault("x", 0);
        dueFault("~n", 0);
        dueFault("M", 0);
        dueFault("n;x;y", 2);
        dueFault("n;cx;zx", 3);
        dueFault("n;o1x;", 4);
        dueFault("n;*5;*6", 3);
        dueFault("g+12-", 4);
        dueFault("m;s05;s06", 4);
        String most = Rafts.row("s12", 19);
        dueFault(most + ";c1;!", 79);
        dueFault(most + ";c1!!", 78);
        dueFault(most + ";c!!!", 77);
        dueFault(most + ";!!!!", 76);
        dueFault(most + "!!!!!", 75);
    }

    private static void fifthDigits() {
        for (String before : new String[] {"s", "*+", "*-", "g+", "g-"}) {
            for (String number : new String[] {"1000", "5400", "9999"}) {
                for (char digit = '0'; digit <= '9'; digit++) {
                    dueFault(before + number + digit, before.length() + 4);
                }
                dueFault(before + number + "12345", before.length() + 4);
            }
        }
        dueFault("c1;s10000;n", 8);
    }

    private static void tooEarlyAnEnd() {
        dueFault("", 0);
        for (String text : new String[] {"c", "o", "o1", "s", "z", "*", "*+", "*-", "g", "g+", "g-", "n;", "m;o1", "s9999;"}) {
            dueFault(text, text.length());
        }
        String most = Rafts.row("n", 39);
        for (String end : new String[] {";*+", ";g-", ";o1", ";n;"}) {
            dueFault(most + end, 80);
        }
        LampLatitudes x = Rafts.withPad("n;");
        x.wipe();
        Due.due("fault(), wiped", x.fault(), 0);
        x.put('n');
        x.carryOut();
        Due.due("fault(), carried out", x.fault(), 0);
    }

    private static void appends() {
        LampLatitudes x = new LampLatitudes();
        x.put(Due.packed("*+"));
        Due.due("fault()", x.fault(), 2);
        x.put(Due.packed("123"));
        x.put('4');
        Due.due("fault()", x.fault(), LampLatitudes.NONE);
        Due.due("carryOut()", x.carryOut(), 1);
        Due.due("ofStar(0, 0)", x.ofStar(0, 0), 6634);
        Due.due("count(16), putting is no change", x.count(16), 1);
    }

    private static void orderOfCharacters() {
        LampLatitudes x = new LampLatitudes();
        Due.due("put(g+1234;s)", x.put(0x672B313233343B73L), 8);
        Due.due("put(67)", x.put(0x3637L), 10);
        Due.due("carryOut()", x.carryOut(), 2);
        Due.due("count(2)", x.count(2), 5400 + 1234);
        Due.due("count(3)", x.count(3), 67);
    }

    private static void zeroBits() {
        LampLatitudes x = new LampLatitudes();
        Due.due("put(m)", x.put(0x6DL), 1);
        Due.due("put(;m)", x.put(0x3B6DL), 3);
        Due.due("put(;s1;s1)", x.put(0x3B73313B7331L), 9);
        Due.due("put(m, 0, m)", x.put(0x6D006DL), LampLatitudes.BAD_VALUE);
        Due.due("put(m, 0)", x.put(0x6D00L), LampLatitudes.BAD_VALUE);
        Due.due("put(m, 0, 0, 0, 0, 0, 0, m)", x.put(0x6D0000000000006DL), LampLatitudes.BAD_VALUE);
        Due.due("count(15)", x.count(15), 9);
        Due.due("fault()", x.fault(), LampLatitudes.NONE);
    }

    private static void oneToEight() {
        String eight = "g-5400;n";
        for (int many = 1; many <= 8; many++) {
            LampLatitudes x = new LampLatitudes();
            Due.due("put() of " + many, x.put(Due.packed(eight.substring(0, many))), many);
            Due.due("count(15)", x.count(15), many);
        }
        LampLatitudes x = new LampLatitudes();
        x.put(Due.packed(eight));
        Due.due("carryOut()", x.carryOut(), 2);
        Due.due("count(2)", x.count(2), 0);
        Due.due("put(0)", x.put(0), LampLatitudes.BAD_VALUE);
    }

    private static void lengthThen() {
        LampLatitudes x = new LampLatitudes();
        for (int time = 1; time <= 10; time++) {
            Due.due("put() of 8", x.put(Due.packed("12345678")), 8 * time);
        }
        x.wipe();
        Due.due("put() of 1", x.put('1'), 1);
        Due.due("put() of 3", x.put(Due.packed("123")), 4);
    }

    private static void noCharacter() {
        LampLatitudes x = new LampLatitudes();
        Due.due("put(0)", x.put(0), LampLatitudes.BAD_VALUE);
        x.put('n');
        Due.due("put(0)", x.put(0), LampLatitudes.BAD_VALUE);
        Due.due("count(15)", x.count(15), 1);
        Due.due("put(0), full", Rafts.withPad("m".repeat(80)).put(0), LampLatitudes.BAD_VALUE);
    }

    /** Each code at each place of eight characters. */
    private static void codes() {
        for (int place = 0; place < 8; place++) {
            for (int code = 1; code < 256; code++) {
                long others = Due.packed("mmmmmmmm") & ~(255L << 8 * place);
                LampLatitudes x = new LampLatitudes();
                Due.due("put() with the code " + code + " at " + place, x.put(others | (long) code << 8 * place),
                    code >= 33 && code <= 126 ? 8 : LampLatitudes.BAD_VALUE);
            }
        }
        for (int code = 1; code < 256; code++) {
            Due.due("put(" + code + ")", new LampLatitudes().put(code),
                code >= 33 && code <= 126 ? 1 : LampLatitudes.BAD_VALUE);
        }
        Due.due("put(-1)", new LampLatitudes().put(-1), LampLatitudes.BAD_VALUE);
    }

    /** Each bit above each number of characters, but for those of the character right before them. */
    private static void bitsAboveZeros() {
        LampLatitudes x = Rafts.withPad("m");
        for (int many = 0; many < 7; many++) {
            long characters = Due.packed("mmmmmmm".substring(0, many));
            for (int bit = 8 * many + 8; bit < 64; bit++) {
                Due.due("put() of " + many + " and the bit " + bit, x.put(characters | 1L << bit), LampLatitudes.BAD_VALUE);
            }
        }
        Due.due("count(15)", x.count(15), 1);
        for (int many = 0; many < 7; many++) {
            long above = Due.packed("m") << 8 * many + 8;
            Due.due("put() of " + many + ", 0, and one", x.put(Due.packed("mmmmmmm".substring(0, many)) | above),
                LampLatitudes.BAD_VALUE);
        }
    }

    private static void tooLong() {
        for (int many = 1; many <= 8; many++) {
            long characters = Due.packed("nnnnnnnn".substring(0, many));
            LampLatitudes x = Rafts.withPad("m".repeat(80 - many));
            Due.due("put() of " + many + ", up to 80", x.put(characters), 80);
            Due.due("put() of " + many + ", above 80", x.put(characters), LampLatitudes.TOO_MANY);
            LampLatitudes y = Rafts.withPad("m".repeat(81 - many));
            Due.due("put() of " + many + ", up to 81", y.put(characters), LampLatitudes.TOO_MANY);
            Due.due("count(15)", y.count(15), 81 - many);
        }
        LampLatitudes x = Rafts.withPad("m".repeat(79));
        Due.due("put() of 2", x.put(Due.packed("nn")), LampLatitudes.TOO_MANY);
        Due.due("put() of 1", x.put('n'), 80);
        Due.due("put() of a wrong one", x.put(127), LampLatitudes.BAD_VALUE);
    }

    private static void wipes() {
        LampLatitudes x = new LampLatitudes();
        Due.due("wipe(), empty", x.wipe(), 0);
        x.put('x');
        Due.due("wipe() of 1", x.wipe(), 1);
        Due.due("count(15)", x.count(15), 0);
        Due.due("wipe(), wiped", x.wipe(), 0);
        LampLatitudes full = Rafts.withPad("x".repeat(80));
        Due.due("wipe() of 80", full.wipe(), 80);
        Due.due("put(n)", full.put('n'), 1);
        Due.due("fault(), nothing is left", full.fault(), LampLatitudes.NONE);
        Due.due("carryOut(), nothing is left", full.carryOut(), 1);
    }

    private static void faults() {
        LampLatitudes x = new LampLatitudes();
        Due.due("fault(), empty", x.fault(), 0);
        x.put('n');
        Due.due("fault() of n", x.fault(), LampLatitudes.NONE);
        Due.due("fault(), once more", x.fault(), LampLatitudes.NONE);
        x.put(';');
        Due.due("fault() of n;", x.fault(), 2);
        x.put(';');
        Due.due("fault() of n;;", x.fault(), 2);
        Due.due("count(15)", x.count(15), 3);
        faultsOfAGrowingText();
    }

    /** No fault is left from what was read before: "." is no fault, "<" an end too early. */
    private static void faultsOfAGrowingText() {
        String text = "o12;c3;s40;*-56;m;g+7;z8;n";
        String ends = "<<.<<.<<..<<<..<.<<<.<<.<.";
        LampLatitudes x = new LampLatitudes();
        for (int length = 1; length <= text.length(); length++) {
            x.put(text.charAt(length - 1));
            int fault = ends.charAt(length - 1) == '.' ? LampLatitudes.NONE : length;
            Due.due("fault() of " + text.substring(0, length), x.fault(), fault);
        }
    }

    private static void oneAfterTheOther() {
        LampLatitudes x = new LampLatitudes();
        Due.due("carryOut()", carriedOut(x, "*+100;*-200;o00;o11;o20;c1;m;g-33;s7;n;z4;z4;z5"), 13);
        LampLatitudes y = Rafts.withStars(100, -200);
        y.sight(0, 0);
        y.sight(1, 1);
        y.sight(2, 0);
        y.cloud(1);
        y.agree();
        y.goal(-33);
        y.sail(7);
        y.night();
        y.sleep(5);
        Due.due("the state", Due.portrait(x), Due.portrait(y));
    }

    private static void upToAnError() {
        String[] wrong = {"*+5401", "c9", "c1", "o70", "o01", "m", "s0", "s100", "z7", "g-5401"};
        for (String order : wrong) {
            LampLatitudes x = new LampLatitudes();
            Due.due("carryOut() with " + order + " amidst", carriedOut(x, "*+1;s2;" + order + ";s3;n"), 2);
            Due.due("count(3), not behind it", x.count(3), 2);
            Due.due("count(4), not behind it", x.count(4), 0);
            Due.due("ofStar(0, 0), but ahead of it", x.ofStar(0, 0), 5401);
            Due.due("carryOut() with " + order + " as the last one", carriedOut(x, "s1;n;" + order), 2);
            Due.due("count(4)", x.count(4), 1);
        }
    }

    private static void emptiesThePad() {
        for (String text : new String[] {"n", "m", "n;m", "m;n", "n;m;n", Rafts.row("n", 40)}) {
            LampLatitudes x = Rafts.withPad(text);
            x.carryOut();
            Due.due("count(15) after carryOut() of " + text, x.count(15), 0);
            Due.due("wipe()", x.wipe(), 0);
            Due.due("carryOut() of nothing", x.carryOut(), LampLatitudes.BAD_TEXT);
        }
    }

    private static void oneChange() {
        LampLatitudes x = new LampLatitudes();
        x.goal(9);
        String before = Due.portrait(x);
        Due.due("carryOut() of 40", carriedOut(x, Rafts.row("n", 40)), 40);
        Due.due("count(16)", x.count(16), 2);
        Due.due("undo()", x.undo(), 1);
        Due.due("the state, undone", Due.portrait(x), before);
        Due.due("carryOut() of none", carriedOut(x, "m;n"), 0);
        Due.due("count(16), none carried out", x.count(16), 2);
        Due.due("undo()", x.undo(), 1);
        Due.due("carryOut() of one of two", carriedOut(x, "n;m"), 1);
        Due.due("count(16), one carried out", x.count(16), 2);
        Due.due("undo()", x.undo(), 1);
        Due.due("count(4)", x.count(4), 0);
        Due.due("count(2)", x.count(2), 5409);
        Rafts.dueOneChange("carryOut()", LampLatitudes::carryOut);
    }

    private static void howMany() {
        for (int many : new int[] {1, 2, 20, 39, 40}) {
            Due.due("carryOut() of " + many, carriedOut(new LampLatitudes(), Rafts.row("n", many)), many);
            String text = Rafts.row("n", many - 1) + (many == 1 ? "" : ";") + "m";
            Due.due("carryOut(), the last of " + many + " wrong", carriedOut(new LampLatitudes(), many == 1 ? "m" : text), many - 1);
        }
        Due.due("carryOut(), the first one wrong", carriedOut(new LampLatitudes(), "m;n;n"), 0);
    }

    private static void faultyTextsStay() {
        LampLatitudes x = new LampLatitudes();
        Due.due("carryOut(), empty", x.carryOut(), LampLatitudes.BAD_TEXT);
        Due.putText(x, "n;s");
        String before = Due.portrait(x);
        Due.due("carryOut() of n;s", x.carryOut(), LampLatitudes.BAD_TEXT);
        Due.due("count(15)", x.count(15), 3);
        Due.due("count(16)", x.count(16), 0);
        Due.due("the state", Due.portrait(x), before);
        x.put('5');
        Due.due("carryOut() of n;s5", x.carryOut(), 2);
        Due.due("count(3)", x.count(3), 5);
        LampLatitudes full = Rafts.withPad("n".repeat(80));
        Due.due("carryOut() of 80", full.carryOut(), LampLatitudes.BAD_TEXT);
        Due.due("wipe()", full.wipe(), 80);
    }
}

/**
 * Promises 7 to 9, with the first half of part 2 of the terms (texts, tokens, clauses, faults, what a formula
 * is worth): each sentence that names an edge, by itself.
 */
public final class RuleEdgesTest {
    private static final Checks CHECKS = new Checks("RuleEdgesTest");
    private static final int LEAST = Integer.MIN_VALUE;
    private static final int MOST = Integer.MAX_VALUE;
    private static final String[] VALUES = {
        "guests", "nights", "young", "miles", "people", "common", "turn", "since", "age", "visits", "year",
    };

    public static void main(String[] args) {
        highestByteFirst();
        fullTape();
        moreThanTheTapeHas();
        tapeIsEmptyThen();
        nothingBehindIsRead();
        eightTexts();
        nineAheadOfAFault();
        placeOfTheLatest();
        faultyTextsAreNoRules();
        textsOf400();
        blanks();
        everyByteAtFirst();
        everyByteAsAPart();
        longestRows();
        digits();
        endsTooSoon();
        clauses();
        expressionsWithin();
        nots();
        wordsForParts();
        onlyOneTest();
        firstAlongTheText();
        divisions();
        wraps();
        holds();
        CHECKS.end();
    }

    /** 7: Twenty bytes come behind the tape, of each number the highest first. */
    private static void highestByteFirst() {
        TownTwins x = new TownTwins();
        CHECKS.due("7: feed", x.feed(0x706f7431, 0x32333435, 0x3b726174, 0x6537383b, 0x73ff0080), 20);
        // 'pot12345;rate78;s' and three bytes that are no tokens
        CHECKS.due("7: the bytes in their order", x.rules(20), 1);
        CHECKS.due("7: 's' is no clause", x.fault(), 16);
        CHECKS.due("7: feed", x.feed(0x706f7431, 0x32333435, 0x3b726174, 0x6537383b, 0xff000080), 20);
        CHECKS.due("7: the last number's bytes", x.rules(17), 1);
        CHECKS.due("7: 255 comes first", x.fault(), 16);
        x.feed(0x20202020, 0x20202020, 0x20202020, 0x20202020, 0x20202020);
        CHECKS.due("7: behind the tape", x.feed(0x20202020, 0x20202020, 0x20202020, 0x20202020, 0x20202080), 40);
        CHECKS.due("7: the last of 40", x.rules(40), 1);
        CHECKS.due("7: its place", x.fault(), 39);
    }

    /** 7: how many it has; NONE, and none come, if it would have more than 400. */
    private static void fullTape() {
        TownTwins x = new TownTwins();
        for (int i = 1; i <= 20; i++) {
            CHECKS.due("7: feed " + i, x.feed(0x20202020, 0x20202020, 0x20202020, 0x20202020, 0x20202020), 20 * i);
        }
        CHECKS.due("7: feed 21", x.feed(-1, -1, -1, -1, -1), -1);
        CHECKS.due("7: feed 22", x.feed(-1, -1, -1, -1, -1), -1);
        CHECKS.due("7: none came", x.count(8), 400);
        CHECKS.refused("7: none came, so there are no 401", () -> x.rules(401));
        CHECKS.due("7: none took another's place", x.rules(400), 0);
        CHECKS.due("7: then there is room again", x.feed(-1, -1, -1, -1, -1), 20);
    }

    /** 8: IllegalArgumentException: the tape has not so many, n below 0 (nothing changes). */
    private static void moreThanTheTapeHas() {
        TownTwins x = new TownTwins();
        CHECKS.refused("8: one of none", () -> x.rules(1));
        Checks.feed(x, "foo");
        x.rules(3);
        Checks.feed(x, "  pot 5;");
        String before = Checks.state(x);
        for (int wrong : new int[] {LEAST, -1, 21, 400, 401, MOST}) {
            CHECKS.refused("8: rules(" + wrong + ") of 20", () -> x.rules(wrong));
        }
        CHECKS.unchanged("8: rules() of too many", x, before);
        CHECKS.due("8: the fault's place too", x.fault(), 0);
        CHECKS.due("8: all that it has", x.rules(20), 0);
    }

    /** 8: The tape's first n bytes (it is empty then). */
    private static void tapeIsEmptyThen() {
        int[] due = {0, 0, 1, 1, 1, 1, 1, 0};
        for (int n = 0; n <= 7; n++) {
            TownTwins x = new TownTwins();
            Checks.feed(x, " pot 5;");
            CHECKS.due("8: rules(" + n + ") of ' pot 5;'", x.rules(n), due[n]);
            CHECKS.due("8: the tape is empty then", x.count(8), 0);
            CHECKS.refused("8: nothing is left of it", () -> x.rules(1));
            CHECKS.due("8: but none can be taken of none", x.rules(0), 0);
        }
    }

    /** 8: what stood on the tape ahead, or stands behind the first n bytes, is not read. */
    private static void nothingBehindIsRead() {
        TownTwins x = new TownTwins();
        Checks.feed(x, "pot 123456789;      pot 5;");
        x.rules(0);
        Checks.feed(x, "pot 12");
        CHECKS.due("8: a number that goes on behind", x.rules(5), 1);
        CHECKS.due("9: it ends there", x.fault(), 5);
        Checks.feed(x, "pot 1234567;");
        CHECKS.due("8: six of seven digits", x.rules(10), 1);
        CHECKS.due("9: the text ends too soon", x.fault(), 10);
        Checks.feed(x, "grants 1;");
        CHECKS.due("8: a word that goes on behind", x.rules(5), 1);
        CHECKS.due("9: the text ends too soon", x.fault(), 5);
        Checks.feed(x, "pot 7; & 8;");
        CHECKS.due("8: what is wrong stands behind", x.rules(7), 0);
    }

    /** 8: 9: there are 8. */
    private static void eightTexts() {
        TownTwins x = new TownTwins();
        for (int i = 1; i <= 8; i++) {
            CHECKS.due("8: text " + i, Checks.tell(x, "rate " + i + ";"), 0);
            CHECKS.due("27: count(7)", x.count(7), i);
        }
        CHECKS.due("8: the ninth", Checks.tell(x, "rate 9;"), 9);
        CHECKS.due("8: the tape is empty then", x.count(8), 0);
        CHECKS.due("8: there are 8 still", x.count(7), 8);
        CHECKS.due("8: the ninth, without a byte", x.rules(0), 9);
        x.town(0, 0, 1, 1);
        x.town(0, 0, 1, 1);
        x.charter(0, 1, 0);
        x.event(1, 0, 1, 0, 1, 0, 0);
        CHECKS.due("8: the eighth counts", x.told(0, 3, 0), 8);
    }

    /** 8: 9: there are 8 (ahead of a FAULT); but not ahead of an exception. */
    private static void nineAheadOfAFault() {
        TownTwins x = new TownTwins();
        for (int i = 0; i < 8; i++) {
            x.rules(0);
        }
        CHECKS.due("8: a text with a fault", Checks.tell(x, "foo;"), 9);
        CHECKS.due("9: and no place of it", x.fault(), -1);
        CHECKS.due("8: the tape is empty then", x.count(8), 0);
        CHECKS.refused("8: more than the tape has", () -> x.rules(1));
        CHECKS.refused("8: below 0", () -> x.rules(-1));
        TownTwins y = new TownTwins();
        for (int i = 0; i < 9; i++) {
            CHECKS.due("8: texts with a fault do not count among the 8", Checks.tell(y, "foo;"), 1);
        }
        CHECKS.due("8: so there is room", Checks.tell(y, "pot 1;"), 0);
    }

    /** 9: The place of the latest rules()'s FAULT; NONE without. */
    private static void placeOfTheLatest() {
        TownTwins x = new TownTwins();
        CHECKS.due("9: without any rules", x.fault(), -1);
        Checks.tell(x, "pot foo;");
        CHECKS.due("9: a fault", x.fault(), 4);
        CHECKS.due("9: asked again", x.fault(), 4);
        Checks.tell(x, "pot 1; grant 1");
        CHECKS.due("9: a later fault", x.fault(), 14);
        Checks.feed(x, "pot 1;");
        CHECKS.due("9: feeding changes nothing", x.fault(), 14);
        x.rules(6);
        CHECKS.due("9: none in the latest", x.fault(), -1);
        Checks.tell(x, "&");
        CHECKS.due("9: the first byte", x.fault(), 0);
        x.rules(0);
        CHECKS.due("9: none in no text", x.fault(), -1);
    }

    /** 8: are RULES: 0, or the FAULT: a text with a fault changes nothing of what counts. */
    private static void faultyTextsAreNoRules() {
        TownTwins x = new TownTwins();
        x.town(0, 0, 1, 1);
        x.town(0, 0, 1, 1);
        x.charter(0, 1, 0);
        x.event(1, 0, 1, 0, 1, 0, 0);
        CHECKS.due("8: a fault behind a good clause", Checks.tell(x, "rate 7; foo"), 1);
        CHECKS.due("8: no clause of it counts", x.told(0, 3, 0), 20);
        Checks.tell(x, "rate 5; grant 3;");
        CHECKS.due("8: a good text counts", x.told(0, 3, 0), 5);
        Checks.tell(x, "rate 7; grant 9; pot 1234567;");
        CHECKS.due("8: it counts still: rate", x.told(0, 3, 0), 5);
        CHECKS.due("8: it counts still: grant", x.told(0, 1, 0), 3);
    }

    /** T: a text of at most 400 bytes: its last byte is read, and it can end too soon there. */
    private static void textsOf400() {
        String blanks = " ".repeat(394);
        CHECKS.fault(blanks + "pot 5;", 0, -1);
        CHECKS.fault(blanks + "pot 55", 1, 400);
        CHECKS.fault(blanks + "pot 5&", 1, 399);
        CHECKS.fault(" ".repeat(399) + ";", 1, 399);
        CHECKS.fault("grant " + "1".repeat(394), 2, 6);
        CHECKS.fault("x".repeat(400), 1, 0);
        CHECKS.fault("grant " + "x".repeat(394), 3, 6);
        CHECKS.fault("grant " + "(".repeat(394), 2, 12);
        CHECKS.fault("grant 1" + "+1".repeat(196) + ";", 0, -1);
        CHECKS.fault("grant 1" + "*1".repeat(196) + "+", 1, 400);
        CHECKS.fault("grant 1" + "-1".repeat(196) + "&", 1, 399);
        CHECKS.fault("sleep 1" + " or 1".repeat(78) + ";", 0, -1);
        CHECKS.fault("sleep 1" + " and 1".repeat(65) + ";", 0, -1);
    }

    /** T: blanks (32, 10) between them count for nothing; but they part what they stand in. */
    private static void blanks() {
        CHECKS.fault("", 0, -1);
        CHECKS.fault(" ", 0, -1);
        CHECKS.fault("\n", 0, -1);
        CHECKS.fault("\n  pot\n5\n;  \n", 0, -1);
        CHECKS.fault("pot5;rate6;grant(1)or(2)unless(3);", 0, -1);
        CHECKS.fault("pot 1 2;", 1, 6);
        CHECKS.fault("po t 1;", 1, 0);
        CHECKS.fault("grant gue sts;", 3, 6);
        CHECKS.fault("grant 1 u nless 2;", 1, 8);
        CHECKS.fault("\t", 1, 0);
        CHECKS.fault("pot\r5;", 1, 3);
        CHECKS.fault("pot 5;" + (char) 0, 1, 6);
        CHECKS.fault("pot 5;" + (char) 160, 1, 6);
        CHECKS.fault("pot" + (char) 11 + "5;", 1, 3);
    }

    /** T: 1 a TOKEN that can't stand there, or is none: each byte, where a CLAUSE must stand. */
    private static void everyByteAtFirst() {
        for (int b = 0; b < 256; b++) {
            boolean blank = b == 32 || b == 10;
            CHECKS.fault(Character.toString((char) b), blank ? 0 : 1, blank ? -1 : 0);
        }
    }

    /** T: each byte where a PART must stand: a word, a digit, a parenthesis and blanks, and all the others. */
    private static void everyByteAsAPart() {
        for (int b = 0; b < 256; b++) {
            boolean word = b >= 'a' && b <= 'z';
            boolean fits = b >= '0' && b <= '9' || b == '(' || b == 32 || b == 10;
            CHECKS.fault("grant " + (char) b, word ? 3 : 1, fits ? 7 : 6);
        }
    }

    /** T: words (a .. z, the longest row). */
    private static void longestRows() {
        CHECKS.fault("pota 5;", 1, 0);
        CHECKS.fault("apot 5;", 1, 0);
        CHECKS.fault("potrate 5;", 1, 0);
        CHECKS.fault("po 5;", 1, 0);
        CHECKS.fault("grantguests;", 1, 0);
        CHECKS.fault("grant guestss;", 3, 6);
        CHECKS.fault("grant notguests;", 3, 6);
        CHECKS.fault("grant 1 orguests;", 1, 8);
        CHECKS.fault("grant 1 unless2;", 0, -1);
        CHECKS.fault("grant 1unless 2;", 0, -1);
        CHECKS.fault("grant 1 unlessguests;", 1, 8);
        CHECKS.fault("Pot 5;", 1, 0);
        CHECKS.fault("pOt 5;", 1, 0);
        CHECKS.fault("grant gUests;", 3, 6);
        CHECKS.fault("grant ages;", 3, 6);
        CHECKS.fault("grant ag;", 3, 6);
    }

    /** T: NUMBERS (1 to 6 digits); 2: a NUMBER of 7 digits or more, where it could stand. */
    private static void digits() {
        String[] clauses = {"pot ", "rate ", "grant ", "sleep ", "grant 1 + ", "grant 1 unless ", "grant not "};
        for (String clause : clauses) {
            for (String number : new String[] {"0", "9", "000000", "999999", "0000000", "1000000", "99999999999"}) {
                boolean long7 = number.length() > 6;
                CHECKS.fault(clause + number + ";", long7 ? 2 : 0, long7 ? clause.length() : -1);
            }
        }
        CHECKS.fault("1234567;", 1, 0);
        CHECKS.fault("grant 1 1234567;", 1, 8);
        CHECKS.fault("grant (1 1234567);", 1, 9);
        CHECKS.fault("pot 1 1234567;", 1, 6);
        CHECKS.fault("pot 1234567", 2, 4);
        CHECKS.fault("grant 1234567 &", 2, 6);
    }

    /** T: 1, the text's length where it ends too soon: behind each TOKEN of a text but the last. */
    private static void endsTooSoon() {
        String[] tokens = {
            "grant", "not", "(", "guests", "+", "1", ")", "*", "2", "<", "3", "and", "4", "or", "5", "unless", "6",
            "=", "7", ";",
        };
        StringBuilder text = new StringBuilder();
        for (int i = 0; i < tokens.length; i++) {
            text.append(tokens[i]);
            boolean whole = i == tokens.length - 1;
            CHECKS.fault(text.toString(), whole ? 0 : 1, whole ? -1 : text.length());
            text.append(" \n");
            CHECKS.fault(text.toString(), whole ? 0 : 1, whole ? -1 : text.length());
        }
        for (String clause : new String[] {"sleep", "pot", "rate", "pot 5", "rate 5", "sleep 5 unless"}) {
            CHECKS.fault(clause, 1, clause.length());
            CHECKS.fault("pot 5;" + clause, 1, clause.length() + 6);
        }
    }

    /** T: 2: the first TOKEN of the 13th CLAUSE, one that can stand there. */
    private static void clauses() {
        String[] kinds = {"grant 1;", "sleep 0;", "pot 1;", "rate 1;", "grant 1 unless 1;"};
        for (String kind : kinds) {
            String twelve = kind.repeat(12);
            CHECKS.fault(kind.repeat(11), 0, -1);
            CHECKS.fault(twelve, 0, -1);
            CHECKS.fault(twelve + " \n", 0, -1);
            CHECKS.fault(twelve + kind, 2, twelve.length());
        }
        String twelve = "grant 1;sleep 1;pot 1;rate 1;".repeat(3);
        for (String word : new String[] {"grant", "sleep", "pot", "rate"}) {
            CHECKS.fault(twelve + word, 2, twelve.length());
            CHECKS.fault(twelve + "\n " + word + " &", 2, twelve.length() + 2);
        }
        for (String other : new String[] {"foo", "guests", "not", "unless", ";", "(", "5", "1234567", "&"}) {
            CHECKS.fault(twelve + other, 1, twelve.length());
        }
    }

    /** T: 2: the first TOKEN of an EXPR within 6 others (a NUMBER, any word, a parenthesis). */
    private static void expressionsWithin() {
        String five = "(((((";
        String six = "((((((";
        CHECKS.fault("grant " + five + "1)))));", 0, -1);
        CHECKS.fault("grant " + five + "not 1)))));", 0, -1);
        CHECKS.fault("grant " + five + "1))))) + " + five + "1)))));", 0, -1);
        CHECKS.fault("grant 1 unless " + five + "1)))));", 0, -1);
        CHECKS.fault("grant " + five + "1))))) unless " + five + "1)))));", 0, -1);
        for (String first : new String[] {"1", "guests", "foo", "not", "or", "unless", "grant", "(", "1234567"}) {
            CHECKS.fault("grant " + six + first, 2, 12);
            CHECKS.fault("grant 1 unless " + six + " " + first, 2, 22);
            CHECKS.fault("sleep " + five + "1))))) and " + six + first, 2, 28);
        }
        for (String first : new String[] {")", ";", "+", "-", "*", "/", "<", "=", "&", "A", ""}) {
            CHECKS.fault("grant " + six + first, 1, 12);
        }
        CHECKS.fault("grant not not not not not not " + six + "1", 2, 36);
        CHECKS.fault("grant (((((1 + (2", 2, 16);
        CHECKS.fault("grant " + five + "foo", 3, 11);
    }

    /** T: 2: the seventh 'not' side by side. */
    private static void nots() {
        String six = "not ".repeat(6);
        CHECKS.fault("grant " + six + "1;", 0, -1);
        CHECKS.fault("grant " + six + "not 1;", 2, 30);
        CHECKS.fault("grant " + six + "not", 2, 30);
        CHECKS.fault("grant " + six + "not not not;", 2, 30);
        CHECKS.fault("grant " + six + "foo;", 3, 30);
        CHECKS.fault("grant " + six + ";", 1, 30);
        CHECKS.fault("grant " + six + "1 and " + six + "1 or " + six + "1;", 0, -1);
        CHECKS.fault("grant " + six + "1 unless " + six + "1;", 0, -1);
        CHECKS.fault("grant " + six + "(" + six + "1);", 0, -1);
        CHECKS.fault("grant " + six + "(" + six + "not 1);", 2, 55);
        CHECKS.fault("grant 1 unless " + six + "not 1;", 2, 39);
        CHECKS.fault("sleep 1 or " + six + "not 1;", 2, 35);
    }

    /** T: 3 any word where a PART must stand that is no VALUE. */
    private static void wordsForParts() {
        for (String value : VALUES) {
            CHECKS.fault("grant " + value + ";", 0, -1);
            CHECKS.fault("sleep (" + value + ");", 0, -1);
            CHECKS.fault(value + " 1;", 1, 0);
            CHECKS.fault("grant 1 " + value + ";", 1, 8);
            CHECKS.fault("pot " + value + ";", 1, 4);
            CHECKS.fault("grant " + value + "s;", 3, 6);
        }
        for (String word : new String[] {"grant", "sleep", "pot", "rate", "unless", "and", "or", "foo", "z"}) {
            CHECKS.fault("grant " + word, 3, 6);
            CHECKS.fault("grant not " + word, 3, 10);
            CHECKS.fault("grant (" + word, 3, 7);
            CHECKS.fault("grant 1 + " + word, 3, 10);
            CHECKS.fault("grant 1 / " + word, 3, 10);
            CHECKS.fault("grant 1 < " + word, 3, 10);
            CHECKS.fault("grant 1 or " + word, 3, 11);
            CHECKS.fault("grant 1 and " + word, 3, 12);
            CHECKS.fault("grant 1 unless " + word, 3, 15);
        }
        for (String join : new String[] {"+", "-", "*", "/", "<", "="}) {
            CHECKS.fault("grant 1 " + join + " not 1;", 3, 10);
        }
        CHECKS.fault("grant 1 or not 1 and not 1;", 0, -1);
    }

    /** T: NOT: SUM [('<' | '=') SUM]; CLAUSE: EXPR ['unless' EXPR]: one, and no more. */
    private static void onlyOneTest() {
        for (String first : new String[] {"<", "="}) {
            for (String second : new String[] {"<", "="}) {
                CHECKS.fault("grant 1 " + first + " 2 " + second + " 3;", 1, 12);
                CHECKS.fault("grant 1 " + first + " (2 " + second + " 3);", 0, -1);
                CHECKS.fault("grant 1 " + first + " 2 and 3 " + second + " 4;", 0, -1);
            }
        }
        CHECKS.fault("grant 1 unless 2 unless 3;", 1, 17);
        CHECKS.fault("grant (1 unless 2);", 1, 9);
        CHECKS.fault("pot 1 unless 2;", 1, 6);
        CHECKS.fault("pot 1;;", 1, 6);
        CHECKS.fault(";", 1, 0);
        CHECKS.fault("grant 1 <= 2;", 1, 9);
        CHECKS.fault("grant 1 ! 2;", 1, 8);
        CHECKS.fault("grant 1 > 2;", 1, 8);
        CHECKS.fault("grant - 1;", 1, 6);
        CHECKS.fault("grant ();", 1, 7);
    }

    /** T: FAULTS, the first along the text. */
    private static void firstAlongTheText() {
        CHECKS.fault("grant foo; pot 1234567; &", 3, 6);
        CHECKS.fault("pot 1234567; grant foo; &", 2, 4);
        CHECKS.fault("& pot 1234567; grant foo;", 1, 0);
        CHECKS.fault("grant 1 + foo + 1234567", 3, 10);
        CHECKS.fault("grant 1 + 1234567 + foo", 2, 10);
        CHECKS.fault("pot 5; pot foo; pot 1234567;", 1, 11);
    }

    private static void worth(String formula, long due) {
        TownTwins x = new TownTwins();
        x.town(0, 0, 1, 1);
        x.town(0, 0, 1, 1);
        x.charter(0, 1, 0);
        x.event(1, 0, 9, 0, 4, 2, 0);
        CHECKS.due("T: rules 'grant " + formula + ";'", Checks.tell(x, "grant " + formula + ";"), 0);
        CHECKS.due("T: worth of '" + formula + "'", x.told(0, 1, 0), due);
    }

    /** T: From the left; / cut down to 0, by 0 gives 0. */
    private static void divisions() {
        worth("7 / 2", 3);
        worth("10 + (0 - 7) / 2", 7);
        worth("10 + 7 / (0 - 2)", 7);
        worth("10 + (0 - 7) / (0 - 2)", 13);
        worth("10 + (0 - 1) / 2", 10);
        worth("1 / 0 + 4", 4);
        worth("0 / 0 + 4", 4);
        worth("(0 - 5) / 0 + 4", 4);
        worth("5 / (3 - 3) + 4", 4);
        worth("5 / since + 4", 4);
        worth("100 / 10 / 5", 2);
        worth("100 / 10 * 5", 50);
        worth("2 * 7 / 4", 3);
        worth("10 - 3 - 2", 5);
        worth("10 - 3 + 2", 9);
    }

    /** T: longs that wrap. */
    private static void wraps() {
        // 2 to the 62nd, and the greatest and the least long made of it
        String quarter = "65536 * 65536 * 65536 * 16384";
        worth(quarter + " < 0", 0);
        worth(quarter + " * 2 < 0", 1);
        worth(quarter + " * 2 - 1 < 0", 0);
        worth(quarter + " * 2 = 0 - " + quarter + " * 2", 1);
        worth(quarter + " + " + quarter + " < 0", 1);
        worth(quarter + " * 4 + 5", 5);
        worth(quarter + " * 2 / (0 - 1) < 0", 1);
        worth(quarter + " * 2 / (0 - 1) = " + quarter + " * 2", 1);
        worth(quarter + " * 2 - 1", 999999);
        worth(quarter + " * 2", 0);
        worth("0 - " + quarter + " - " + quarter + " - 1", 999999);
        // beyond an int, but not beyond a long
        worth("65536 * 32768 < 0", 0);
        worth("65536 * 65536 = 0", 0);
        worth("(999999 * 999999 - 999999 * 999998) / 1", 999999);
    }

    /** T: tests, not, and, or are 1 or 0 (what isn't 0 holds); 0 if the second of 'unless' holds, else the first. */
    private static void holds() {
        String[] holding = {"1", "2", "(0 - 1)", "999999", "65536 * 65536", "(65536 * 65536 * 65536 * 32768)"};
        for (String number : holding) {
            worth("not " + number, 0);
            worth("not not " + number, 1);
            worth(number + " or 0", 1);
            worth("0 or " + number, 1);
            worth(number + " and " + number, 1);
            worth(number + " and 0", 0);
            worth("7 unless " + number, 0);
        }
        worth("not 0", 1);
        worth("0 or 0", 0);
        worth("0 and 0", 0);
        worth("7 unless 0", 7);
        worth("7 unless 3 - 3", 7);
        worth("1 < 1", 0);
        worth("0 - 1 < 0", 1);
        worth("1 < 0 - 1", 0);
        worth("1 = 1", 1);
        worth("1 = 0 - 1", 0);
        worth("5 * (2 < 3)", 5);
        worth("0 < 1 or 5", 1);
        worth("not 2 = 3", 1);
        worth("not 2 + 3", 0);
    }
}

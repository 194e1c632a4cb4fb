/** Promises 7 to 9: the tape, rules and their faults; and what formulas are worth. */
public final class RulesTest {
    private static final Checks CHECKS = new Checks("RulesTest");

    public static void main(String[] args) {
        tape();
        rulesAndTape();
        eightTexts();
        goodTexts();
        misplaced();
        tooMuch();
        noValue();
        worth();
        values();
        CHECKS.end();
    }

    private static void tape() {
        TownTwins x = new TownTwins();
        for (int i = 1; i <= 20; i++) {
            CHECKS.due("feed " + i, x.feed(0x20202020, 0x20202020, 0x20202020, 0x20202020, 0x20202020), 20 * i);
        }
        CHECKS.due("the 21st feed", x.feed(0, 0, 0, 0, 0), -1);
        CHECKS.due("count(8)", x.count(8), 400);
        CHECKS.due("400 blanks are rules", x.rules(400), 0);
        CHECKS.due("count(8) after rules", x.count(8), 0);
        CHECKS.due("bytes by the highest first", x.feed(0x706f7420, 0x30313233, 0x34353bff, -1, 0x80000000), 20);
        CHECKS.due("'pot 012345;' and 255", x.rules(12), 1);
        CHECKS.due("place of 255", x.fault(), 11);
    }

    private static void rulesAndTape() {
        TownTwins x = new TownTwins();
        CHECKS.refused("rules(1) of no tape", () -> x.rules(1));
        CHECKS.refused("rules(-1)", () -> x.rules(-1));
        Checks.feed(x, "foo;");
        CHECKS.refused("rules(21) of 20", () -> x.rules(21));
        CHECKS.due("the tape is as it was", x.count(8), 20);
        CHECKS.due("rules of foo", x.rules(20), 1);
        CHECKS.due("place", x.fault(), 0);
        CHECKS.due("the tape is empty after a fault", x.count(8), 0);
        CHECKS.refused("rules(20) then", () -> x.rules(20));
        CHECKS.due("place stays with a refused call", x.fault(), 0);
        Checks.feed(x, "pot 5; foo");
        CHECKS.due("only the first n bytes", x.rules(6), 0);
        CHECKS.due("no place without a fault", x.fault(), -1);
        CHECKS.due("the rest of the tape is gone", x.count(8), 0);
        CHECKS.due("rules(0)", x.rules(0), 0);
        CHECKS.due("count(7)", x.count(7), 2);
    }

    private static void eightTexts() {
        TownTwins x = new TownTwins();
        for (int i = 0; i < 8; i++) {
            CHECKS.due("text " + i, Checks.tell(x, "pot " + i + ";"), 0);
        }
        CHECKS.due("the ninth", Checks.tell(x, "pot 9;"), 9);
        CHECKS.due("the ninth is no fault", x.fault(), -1);
        CHECKS.due("the ninth empties the tape", x.count(8), 0);
        CHECKS.due("the ninth with a fault", Checks.tell(x, "foo"), 9);
        CHECKS.due("and no place", x.fault(), -1);
        CHECKS.refused("the ninth with too few bytes", () -> x.rules(1));
        CHECKS.due("count(7)", x.count(7), 8);
        TownTwins y = new TownTwins();
        CHECKS.due("a fault", Checks.tell(y, "pot;"), 1);
        CHECKS.due("its place", y.fault(), 3);
        CHECKS.due("a text with a fault is none", y.count(7), 0);
    }

    private static void goodTexts() {
        String twelve = "pot 1;".repeat(12);
        String[] texts = {
            "", " \n ", "pot 0;", "rate 999999;", "grant guests;", "sleep 0;", "grant 1 unless 2;",
            "grant(1)unless(2);", "grant not not not not not not 1;", "grant 1<2;", "grant 1=2;",
            "grant 1+2-3*4/5;", "grant 1 or 2 and 3 or not 4;", "grant (((((1)))));", "grant 1or 2;",
            "grant guests+nights+young+miles+people+common+turn+since+age+visits+year;", twelve,
            "grant not (not (not not not not not not 1));", "sleep not 1 < 2;", "grant 5guests;",
        };
        for (String text : texts) {
            CHECKS.fault(text, "grant 5guests;".equals(text) ? 1 : 0, "grant 5guests;".equals(text) ? 7 : -1);
        }
    }

    private static void misplaced() {
        CHECKS.fault("foo;", 1, 0);
        CHECKS.fault("  ;", 1, 2);
        CHECKS.fault("5", 1, 0);
        CHECKS.fault("12345678", 1, 0);
        CHECKS.fault("Grant 1;", 1, 0);
        CHECKS.fault("grants 1;", 1, 0);
        CHECKS.fault("grant", 1, 5);
        CHECKS.fault("grant  \n", 1, 8);
        CHECKS.fault("grant ;", 1, 6);
        CHECKS.fault("grant 1", 1, 7);
        CHECKS.fault("grant 1 ;;", 1, 9);
        CHECKS.fault("grant 1 < 2 < 3;", 1, 12);
        CHECKS.fault("grant 1 = 2 = 3;", 1, 12);
        CHECKS.fault("grant 1 unless 2 unless 3;", 1, 17);
        CHECKS.fault("grant (1 unless 2);", 1, 9);
        CHECKS.fault("grant 1 2;", 1, 8);
        CHECKS.fault("grant 1 guests;", 1, 8);
        CHECKS.fault("grant 1 foo;", 1, 8);
        CHECKS.fault("grant 1 not 2;", 1, 8);
        CHECKS.fault("grant 1 1234567;", 1, 8);
        CHECKS.fault("grant -1;", 1, 6);
        CHECKS.fault("grant (1;", 1, 8);
        CHECKS.fault("grant (1", 1, 8);
        CHECKS.fault("grant ();", 1, 7);
        CHECKS.fault("grant 1);", 1, 7);
        CHECKS.fault("grant 1 +;", 1, 9);
        CHECKS.fault("grant 1 + \t 2;", 1, 10);
        CHECKS.fault("grant 1 & 2;", 1, 8);
        CHECKS.fault("grant 1 {;", 1, 8);
        CHECKS.fault("grant 1 `;", 1, 8);
        CHECKS.fault("grant :;", 1, 6);
        CHECKS.fault("grant 1\r;", 1, 7);
        CHECKS.fault("pot guests;", 1, 4);
        CHECKS.fault("pot;", 1, 3);
        CHECKS.fault("pot 1 + 1;", 1, 6);
        CHECKS.fault("pot (1);", 1, 4);
        CHECKS.fault("rate", 1, 4);
        CHECKS.fault("rate 5", 1, 6);
        CHECKS.fault("sleep 1 unless;", 1, 14);
        CHECKS.fault("grant ((((((;", 1, 12);
        CHECKS.fault("grant ((((((", 1, 12);
        CHECKS.fault("grant (((((()", 1, 12);
        CHECKS.fault("grant ((((((#", 1, 12);
        CHECKS.fault("pot 1;".repeat(12) + "foo;", 1, 72);
        CHECKS.fault("pot 1;".repeat(12) + ";", 1, 72);
        CHECKS.fault("grant " + (char) 0 + ";", 1, 6);
        CHECKS.fault("grant " + (char) 200 + ";", 1, 6);
    }

    private static void tooMuch() {
        CHECKS.fault("pot 1234567;", 2, 4);
        CHECKS.fault("rate 0000001;", 2, 5);
        CHECKS.fault("grant 1 + 0000000;", 2, 10);
        CHECKS.fault("grant 9999999999999999999999;", 2, 6);
        CHECKS.fault("grant ((((((1))))));", 2, 12);
        CHECKS.fault("grant ((((((guests))))));", 2, 12);
        CHECKS.fault("grant ((((((foo))))));", 2, 12);
        CHECKS.fault("grant ((((((not 1))))));", 2, 12);
        CHECKS.fault("grant ((((((((1))))));", 2, 12);
        CHECKS.fault("grant ((((((1234567))))));", 2, 12);
        CHECKS.fault("sleep 1 unless (((((( 1;", 2, 22);
        CHECKS.fault("grant not not not not not not not 1;", 2, 30);
        CHECKS.fault("grant 1 and not not not not not not not 1;", 2, 36);
        CHECKS.fault("pot 1;".repeat(12) + "pot 1;", 2, 72);
        CHECKS.fault("pot 1;".repeat(12) + " grant", 2, 73);
        CHECKS.fault("pot 1;".repeat(12) + "sleep foo", 2, 72);
        CHECKS.fault("pot 1;".repeat(12) + "rate", 2, 72);
    }

    private static void noValue() {
        CHECKS.fault("grant t;", 3, 6);
        CHECKS.fault("grant z;", 3, 6);
        CHECKS.fault("grant a;", 3, 6);
        CHECKS.fault("grant unless;", 3, 6);
        CHECKS.fault("grant guest;", 3, 6);
        CHECKS.fault("grant guestsnights;", 3, 6);
        CHECKS.fault("grant 1 + not 1;", 3, 10);
        CHECKS.fault("grant 1 * and;", 3, 10);
        CHECKS.fault("grant 1 < not 2;", 3, 10);
        CHECKS.fault("grant not foo;", 3, 10);
        CHECKS.fault("grant not not not not not not foo;", 3, 30);
        CHECKS.fault("grant 1 unless pot;", 3, 15);
        CHECKS.fault("grant (grant);", 3, 7);
        CHECKS.fault("grant 1 or or;", 3, 11);
    }

    /** What a formula is worth, by the claim of one visit that it grants (0 to 999,999). */
    private static void worth(String formula, long due) {
        TownTwins x = new TownTwins();
        x.town(0, 0, 30, 7);
        x.town(5, 6, 40, 14);
        x.charter(0, 1, 100);
        x.days(500);
        x.event(1, 0, 9, 1, 4, 2, 470);
        CHECKS.due("rules 'grant " + formula + ";'", Checks.tell(x, "grant " + formula + ";"), 0);
        CHECKS.due("worth of '" + formula + "'", x.told(0, 1, 500), due);
    }

    private static void worth() {
        worth("2 + 3 * 4", 14);
        worth("(2 + 3) * 4", 20);
        worth("20 - 3 - 4", 13);
        worth("100 / 7 / 2", 7);
        worth("100 / 7 * 2", 28);
        worth("7 / 0", 0);
        worth("5 + 7 / 0", 5);
        worth("0 - 5", 0);
        worth("10 + (0 - 7) / 2", 7);
        worth("999999", 999999);
        worth("999999 + 1", 999999);
        worth("1 < 2", 1);
        worth("2 < 2", 0);
        worth("2 = 2", 1);
        worth("2 = 3", 0);
        worth("1 + 2 < 4", 1);
        worth("not 5", 0);
        worth("not 0", 1);
        worth("not not 5", 1);
        worth("not 1 < 0", 1);
        worth("5 or 7", 1);
        worth("0 or 0", 0);
        worth("5 and 7", 1);
        worth("5 and 0", 0);
        worth("1 or 1 and 0", 1);
        worth("(1 or 1) and 0", 0);
        worth("7 unless 0", 7);
        worth("7 unless 3", 0);
        worth("7 unless 0 - 1", 0);
        worth("not 0 and 0", 0);
        worth("(((((6)))))", 6);
        // 10^19 is above the greatest long and wraps below 0; 10^18 is not
        worth("100000 * 100000 * 100000 * 10000 < 0", 1);
        worth("100000 * 100000 * 100000 * 1000 < 0", 0);
        // the least long by -1 is itself
        worth("65536 * 65536 * 65536 * 32768 / (0 - 1) < 0", 1);
        worth("65536 * 65536 * 65536 * 65536 + 3", 3);
        // as much on the stack as there can be: the left sides of all joins, on all six levels
        String deep = "0 or 1 and 1 < 1 + 2 * (".repeat(5) + "0 or 1 and 1 < 1 + 2 * 7" + ")".repeat(5);
        worth(deep, 1);
        worth("77 unless " + deep, 0);
        worth("77 unless 0 or 1 and 1 < 1 + 2 * " + "(0 or 1 and 1 < 1 + 2 * ".repeat(5) + "0" + ")".repeat(5), 77);
    }

    private static void values() {
        worth("guests", 9);
        worth("nights", 4);
        worth("young", 2);
        worth("miles", 11);
        worth("people", 40);
        worth("common", 2);
        worth("turn", 0);
        worth("since", 370);
        worth("age", 370);
        worth("visits", 0);
        worth("year", 1);
    }
}

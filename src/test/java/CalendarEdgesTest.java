/** Promises 19 to 22, with part 4 of the terms: each sentence that names an edge, by itself. */
public final class CalendarEdgesTest {
    private static final Checks CHECKS = new Checks("CalendarEdgesTest");
    private static final int LEAST = Integer.MIN_VALUE;
    private static final int MOST = Integer.MAX_VALUE;

    public static void main(String[] args) {
        planOfNoCharter();
        planNumbers();
        planDays();
        bitsBehind();
        sixPlans();
        allGo();
        townsAlike();
        someDayAlike();
        lastDays();
        mostPlansFirst();
        thenTheLeastSum();
        thenTheFirstRow();
        noneBehindAll();
        greatest();
        noPlans();
        whatIsKept();
        everySmallCase();
        CHECKS.end();
    }

    /** Charters 0 to 5: 0-1, 1-2, 2-0, 3-4, 4-3 and 5-6. */
    private static TownTwins charters() {
        TownTwins x = new TownTwins();
        for (int i = 0; i < 7; i++) {
            x.town(0, 0, 1, 1);
        }
        x.charter(0, 1, 0);
        x.charter(1, 2, 0);
        x.charter(2, 0, 0);
        x.charter(3, 4, 3599);
        x.charter(4, 3, 0);
        x.charter(5, 6, 0);
        return x;
    }

    private static long days(long... days) {
        long bits = 0;
        for (int i = days.length - 1; i >= 0; i--) {
            bits = bits << 12 | days[i];
        }
        return bits;
    }

    private static void row(String what, TownTwins x, int... days) {
        int many = 0;
        int sum = 0;
        for (int day : days) {
            many += day == -1 ? 0 : 1;
            sum += day == -1 ? 0 : day;
        }
        CHECKS.due("21: " + what + ": calendar()", x.calendar(), many);
        CHECKS.due("22: " + what + ": the sum", x.planned(-1), sum);
        for (int p = 0; p < days.length; p++) {
            CHECKS.due("22: " + what + ": planned(" + p + ")", x.planned(p), days[p]);
        }
        CHECKS.noSuch("22: " + what + ": one more", () -> x.planned(days.length));
    }

    /** 19: NoSuchElementException: no such CHARTER (as everywhere). */
    private static void planOfNoCharter() {
        TownTwins x = charters();
        String before = Checks.state(x);
        for (int wrong : new int[] {LEAST, -1, 6, 24, MOST}) {
            CHECKS.noSuch("19: charter " + wrong, () -> x.plan(wrong, 1, 1, 5));
            CHECKS.noSuch("19: charter " + wrong + ", nothing else as told", () -> x.plan(wrong, 0, 0, 3600));
        }
        CHECKS.unchanged("19: a plan of no charter", x, before);
        CHECKS.due("19: the last charter", x.plan(5, 1, 1, 5), 0);
    }

    /** 19: NONE: nights (1 to 30), many (1 to 4) is not as told. */
    private static void planNumbers() {
        TownTwins x = charters();
        String before = Checks.state(x);
        for (int wrong : new int[] {LEAST, -1, 0, 31, MOST}) {
            CHECKS.due("19: nights " + wrong, x.plan(0, wrong, 1, 5), -1);
        }
        for (int wrong : new int[] {LEAST, -1, 0, 5, MOST}) {
            CHECKS.due("19: many " + wrong, x.plan(0, 1, wrong, days(1, 2, 3, 4)), -1);
        }
        CHECKS.unchanged("19: a plan that is not as told", x, before);
        CHECKS.due("19: the least", x.plan(0, 1, 1, 0), 0);
        CHECKS.due("19: the greatest", x.plan(0, 30, 4, days(3599, 3599, 3599, 3599)), 1);
    }

    /** 19: NONE: a DAY (0 to 3599) is not as told; of its DAYS so many, 12 bits each, the first lowest. */
    private static void planDays() {
        TownTwins x = charters();
        for (int wrong : new int[] {3600, 3601, 4095}) {
            CHECKS.due("19: the first of one is " + wrong, x.plan(0, 1, 1, wrong), -1);
            CHECKS.due("19: the first of four is " + wrong, x.plan(0, 1, 4, days(wrong, 2, 3, 4)), -1);
            CHECKS.due("19: the second is " + wrong, x.plan(0, 1, 4, days(1, wrong, 3, 4)), -1);
            CHECKS.due("19: the third is " + wrong, x.plan(0, 1, 4, days(1, 2, wrong, 4)), -1);
            CHECKS.due("19: the fourth is " + wrong, x.plan(0, 1, 4, days(1, 2, 3, wrong)), -1);
        }
        CHECKS.due("19: no plan was kept", x.count(6), 0);
        x.plan(0, 1, 1, 3599);
        row("the last day", x, 3599);
        x.clear();
        x.plan(0, 1, 4, days(3599, 3598, 3597, 3596));
        row("the fourth day is the least", x, 3596);
        x.clear();
        x.plan(0, 1, 4, days(9, 8, 7, 8));
        row("the third day is the least", x, 7);
        x.clear();
        x.plan(0, 1, 4, days(9, 6, 7, 8));
        row("the second day is the least", x, 6);
    }

    /** 19: days: of its DAYS so many: the others' bits count for nothing. */
    private static void bitsBehind() {
        TownTwins x = charters();
        CHECKS.due("19: one of four", x.plan(0, 1, 1, days(500, 4095, 4095, 4095)), 0);
        row("one of four", x, 500);
        x.clear();
        CHECKS.due("19: one, others earlier", x.plan(0, 1, 1, days(500, 1, 2, 3)), 0);
        row("one, others earlier", x, 500);
        x.clear();
        CHECKS.due("19: three of four", x.plan(0, 1, 3, days(500, 400, 300, 200)), 0);
        row("three of four", x, 300);
        x.clear();
        CHECKS.due("19: bits above all four", x.plan(0, 1, 4, days(500, 400, 300, 200) | -1L << 48), 0);
        row("bits above all four", x, 200);
        x.clear();
        CHECKS.due("19: a number below 0", x.plan(0, 1, 2, -1L << 24 | days(7, 5)), 0);
        row("a number below 0", x, 5);
        x.clear();
        CHECKS.due("19: the least long", x.plan(0, 1, 4, Long.MIN_VALUE), 0);
        row("the least long", x, 0);
    }

    /** 19: NONE: there are 6. */
    private static void sixPlans() {
        TownTwins x = charters();
        for (int i = 0; i < 6; i++) {
            CHECKS.due("19: plan " + i, x.plan(i, 1, 1, 100 * i), i);
        }
        CHECKS.due("19: the seventh", x.plan(0, 1, 1, 5), -1);
        CHECKS.due("19: the seventh, not as told either", x.plan(0, 0, 9, 5), -1);
        CHECKS.noSuch("19: the seventh of no charter", () -> x.plan(6, 1, 1, 5));
        CHECKS.due("19: there are 6", x.count(6), 6);
        row("six plans", x, 0, 100, 200, 300, 400, 500);
    }

    /** 20: All PLANS go. */
    private static void allGo() {
        TownTwins x = charters();
        x.clear();
        CHECKS.due("20: without any", x.count(6), 0);
        for (int i = 0; i < 6; i++) {
            x.plan(0, 30, 4, days(1, 2, 3, 4));
        }
        x.home(1, 1, false, 1);
        x.guest(1, 1, false);
        x.clear();
        CHECKS.due("20: when there were 6", x.count(6), 0);
        CHECKS.due("20: nothing else goes", x.count(2) + x.count(4) + x.count(5), 8);
        CHECKS.due("20: from 0 on again", x.plan(0, 1, 1, 9), 0);
        row("of those that went nothing is left", x, 9);
    }

    /** T: Two CLASH, if they have a TOWN alike: as either side of either. */
    private static void townsAlike() {
        int[][] charters = {{0, 0}, {0, 1}, {1, 0}, {0, 2}, {1, 2}, {3, 4}, {4, 3}, {5, 5}, {0, 3}, {1, 4}, {2, 5}};
        boolean[] alike = {true, true, true, true, true, true, true, true, false, false, false};
        for (int i = 0; i < charters.length; i++) {
            TownTwins x = charters();
            x.plan(charters[i][0], 1, 1, 50);
            x.plan(charters[i][1], 1, 1, 50);
            row("charters " + charters[i][0] + " and " + charters[i][1], x, 50, alike[i] ? -1 : 50);
        }
    }

    /** T: and some DAY (a VISIT has its first DAY and as many more as nights). */
    private static void someDayAlike() {
        for (int nights : new int[] {1, 2, 29, 30}) {
            for (int other : new int[] {1, 30}) {
                TownTwins x = charters();
                x.plan(0, nights, 1, 1000);
                x.plan(1, other, 1, 1000 + nights);
                row("on the last day of " + nights + " nights", x, 1000, -1);
                x.clear();
                x.plan(0, nights, 1, 1000);
                x.plan(1, other, 1, 1001 + nights);
                row("the day behind " + nights + " nights", x, 1000, 1001 + nights);
                x.clear();
                x.plan(0, other, 1, 1000 + nights);
                x.plan(1, nights, 1, 1000);
                row("the second goes first, " + nights + " nights", x, -1, 1000);
                x.clear();
                x.plan(0, other, 1, 1001 + nights);
                x.plan(1, nights, 1, 1000);
                row("the second goes first, and is off", x, 1001 + nights, 1000);
            }
        }
        TownTwins x = charters();
        x.plan(0, 30, 1, 1000);
        x.plan(1, 1, 1, 1015);
        row("one within the other", x, 1000, -1);
    }

    /** T: a VISIT goes on beyond the last DAY. */
    private static void lastDays() {
        TownTwins x = charters();
        x.plan(0, 30, 1, 3599);
        x.plan(1, 1, 1, 3599);
        x.plan(2, 1, 1, 3597);
        row("three at the end", x, 3599, -1, 3597);
        x.clear();
        x.plan(0, 30, 1, 3598);
        x.plan(1, 30, 1, 3599);
        row("two at the end", x, 3598, -1);
    }

    /** T: THE CALENDAR: most PLANS, ahead of any sum. */
    private static void mostPlansFirst() {
        TownTwins x = charters();
        x.plan(0, 30, 1, 0);
        x.plan(1, 1, 1, 0);
        x.plan(2, 1, 1, 30);
        row("two for one", x, -1, 0, 30);
        x.clear();
        x.plan(0, 1, 2, days(0, 3599));
        x.plan(1, 1, 1, 0);
        row("one goes to the end", x, 3599, 0);
        x.clear();
        x.plan(0, 30, 1, 100);
        x.plan(1, 5, 1, 95);
        x.plan(2, 5, 1, 130);
        x.plan(0, 1, 1, 110);
        row("three for one", x, -1, 95, 130, 110);
    }

    /** T: of like ones the least sum of these DAYS. */
    private static void thenTheLeastSum() {
        TownTwins x = charters();
        x.plan(0, 1, 2, days(10, 9));
        row("one plan", x, 9);
        x.clear();
        x.plan(0, 1, 1, 11);
        x.plan(1, 1, 1, 10);
        row("the earlier one of two that clash", x, -1, 10);
        x.clear();
        x.plan(0, 1, 2, days(10, 20));
        x.plan(1, 1, 2, days(10, 21));
        row("the sum ahead of the row", x, 20, 10);
        x.clear();
        x.plan(0, 1, 2, days(10, 30));
        x.plan(1, 1, 2, days(10, 20));
        x.plan(2, 1, 2, days(20, 10));
        row("three that take turns", x, 30, 10, 20);
    }

    /** T: of like ones the first as a row: which one of its DAYS (from 0 on). */
    private static void thenTheFirstRow() {
        TownTwins x = charters();
        x.plan(0, 1, 2, days(20, 10));
        x.plan(1, 1, 2, days(20, 10));
        row("by the place among its days", x, 20, 10);
        x.clear();
        x.plan(0, 1, 2, days(10, 20));
        x.plan(1, 1, 2, days(20, 10));
        row("places 0 and 0", x, 10, 20);
        x.clear();
        x.plan(0, 1, 4, days(40, 30, 20, 10));
        x.plan(1, 1, 4, days(40, 30, 20, 10));
        row("the sum first, then places", x, 20, 10);
        x.clear();
        for (int i = 0; i < 4; i++) {
            x.plan(0, 1, 4, days(0, 10, 20, 30));
        }
        row("four in turn", x, 0, 10, 20, 30);
        x.clear();
        for (int i = 0; i < 4; i++) {
            x.plan(0, 1, 4, days(30, 20, 10, 0));
        }
        row("four in turn, from the last on", x, 30, 20, 10, 0);
    }

    /** T: none behind all: a PLAN without a DAY comes behind every DAY in the row. */
    private static void noneBehindAll() {
        TownTwins x = charters();
        x.plan(0, 1, 1, 0);
        x.plan(1, 1, 1, 0);
        x.plan(2, 1, 1, 0);
        row("the first has it", x, 0, -1, -1);
        x.clear();
        x.plan(0, 1, 4, days(9, 9, 9, 5));
        x.plan(1, 1, 1, 5);
        row("even the fourth is ahead of none", x, 9, 5);
        x.clear();
        x.plan(0, 2, 4, days(6, 6, 6, 5));
        x.plan(1, 1, 1, 5);
        row("the fourth of the first, none of the second", x, 5, -1);
    }

    /** T: at most 6 PLANS of 4 DAYS, all of which clash, or none. */
    private static void greatest() {
        TownTwins x = charters();
        for (int i = 0; i < 6; i++) {
            x.plan(0, 30, 4, days(3599, 3598, 3597, 3596));
        }
        row("all clash", x, 3596, -1, -1, -1, -1, -1);
        x.clear();
        for (int i = 0; i < 6; i++) {
            x.plan(0, 1, 4, days(2 * i + 24, 2 * i, 2 * i + 12, 2 * i + 36));
        }
        row("none clash", x, 0, 2, 4, 6, 8, 10);
    }

    /** 21: how many PLANS have a DAY: none without any. */
    private static void noPlans() {
        TownTwins x = new TownTwins();
        row("a new object", x);
        TownTwins y = charters();
        row("charters alone", y);
        y.plan(0, 1, 1, 7);
        row("one plan", y, 7);
        y.clear();
        row("all have gone", y);
    }

    /** 22: (NONE); plan NONE: the sum of DAYS. NoSuchElementException: nothing is kept, no such PLAN in it. */
    private static void whatIsKept() {
        TownTwins x = charters();
        x.plan(0, 1, 1, 9);
        x.plan(1, 1, 1, 9);
        for (int plan : new int[] {LEAST, -2, -1, 0, 1, 6, MOST}) {
            CHECKS.noSuch("22: nothing is kept, plan " + plan, () -> x.planned(plan));
        }
        CHECKS.due("21: calendar()", x.calendar(), 1);
        for (int plan : new int[] {LEAST, -2, 2, 6, MOST}) {
            CHECKS.noSuch("22: no such plan, " + plan, () -> x.planned(plan));
        }
        x.plan(3, 1, 1, 50);
        CHECKS.noSuch("22: one made later", () -> x.planned(2));
        CHECKS.due("22: without a day", x.planned(1), -1);
        CHECKS.due("22: the sum as it was", x.planned(-1), 9);
        x.clear();
        CHECKS.due("22: what is kept stays when all go", x.planned(0), 9);
        CHECKS.due("22: and its NONE", x.planned(1), -1);
        CHECKS.due("21: without plans", x.calendar(), 0);
        CHECKS.noSuch("22: then another is kept", () -> x.planned(0));
        CHECKS.due("22: with the sum 0", x.planned(-1), 0);
    }

    /** T: THE CALENDAR, for every case of three plans with two of four days each, likes among them. */
    private static void everySmallCase() {
        for (int code = 0; code < 4096; code++) {
            TownTwins x = charters();
            Model due = new Model();
            for (int i = 0; i < 5; i++) {
                due.town(0, 0, 1, 1);
            }
            due.charter(0, 1, 0);
            due.charter(1, 2, 0);
            due.charter(2, 0, 0);
            due.charter(3, 4, 0);
            for (int p = 0; p < 3; p++) {
                int charter = p == 2 && code % 5 == 0 ? 3 : p;
                int nights = 1 + (code >> p & 1);
                long days = days(code >> 4 * p & 3, code >> 4 * p + 2 & 3);
                x.plan(charter, nights, 2, days);
                due.plan(charter, nights, 2, days);
            }
            CHECKS.due("21: case " + code, x.calendar(), due.calendar());
            for (int p = -1; p < 3; p++) {
                CHECKS.due("22: case " + code + ", plan " + p, x.planned(p), due.planned(p));
            }
        }
    }
}

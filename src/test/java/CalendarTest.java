/** Promises 19 to 22: plans, and the calendar without a clash. */
public final class CalendarTest {
    private static final Checks CHECKS = new Checks("CalendarTest");

    public static void main(String[] args) {
        plans();
        clashes();
        leastSum();
        likeOnes();
        kept();
        CHECKS.end();
    }

    private static TownTwins towns() {
        TownTwins x = new TownTwins();
        for (int i = 0; i < 6; i++) {
            x.town(0, 0, 1, 1);
        }
        x.charter(0, 1, 0);
        x.charter(1, 2, 0);
        x.charter(3, 4, 3000);
        return x;
    }

    private static long days(int... days) {
        long bits = 0;
        for (int i = days.length - 1; i >= 0; i--) {
            bits = bits << 12 | days[i];
        }
        return bits;
    }

    private static void plans() {
        TownTwins x = towns();
        CHECKS.noSuch("charter 3", () -> x.plan(3, 1, 1, 5));
        CHECKS.noSuch("charter -1", () -> x.plan(-1, 1, 1, 5));
        CHECKS.noSuch("charter 3 and no nights", () -> x.plan(3, 0, 1, 5));
        CHECKS.due("no nights", x.plan(0, 0, 1, 5), -1);
        CHECKS.due("31 nights", x.plan(0, 31, 1, 5), -1);
        CHECKS.due("no days", x.plan(0, 1, 0, 5), -1);
        CHECKS.due("five days", x.plan(0, 1, 5, 5), -1);
        CHECKS.due("day 3600", x.plan(0, 1, 1, 3600), -1);
        CHECKS.due("the fourth is 3600", x.plan(0, 1, 4, days(1, 2, 3, 3600)), -1);
        CHECKS.due("count(6)", x.count(6), 0);
        CHECKS.due("only three are asked for", x.plan(0, 1, 3, days(1, 2, 3, 3600)), 0);
        CHECKS.due("day 3599", x.plan(0, 30, 1, 3599), 1);
        CHECKS.due("bits behind the days", x.plan(2, 30, 4, days(1, 2, 3, 3599) | -1L << 48), 2);
        for (int i = 3; i < 6; i++) {
            CHECKS.due("plan " + i, x.plan(2, 1, 1, 0), i);
        }
        CHECKS.due("the seventh", x.plan(2, 1, 1, 0), -1);
        CHECKS.noSuch("the seventh of no charter", () -> x.plan(3, 1, 1, 5));
        CHECKS.due("count(6)", x.count(6), 6);
        x.clear();
        CHECKS.due("count(6) after clear", x.count(6), 0);
        CHECKS.due("plans start again", x.plan(2, 1, 1, 0), 0);
    }

    private static void row(String what, TownTwins x, int many, int sum, int... days) {
        CHECKS.due(what + ": calendar()", x.calendar(), many);
        CHECKS.due(what + ": the sum", x.planned(-1), sum);
        for (int p = 0; p < days.length; p++) {
            CHECKS.due(what + ": planned(" + p + ")", x.planned(p), days[p]);
        }
        CHECKS.noSuch(what + ": no such plan", () -> x.planned(days.length));
    }

    private static void clashes() {
        TownTwins x = towns();
        x.plan(0, 3, 1, 100);
        x.plan(1, 1, 1, 103);
        row("the last day of one is the first of the other", x, 1, 100, 100, -1);
        x.clear();
        x.plan(0, 3, 1, 100);
        x.plan(1, 1, 1, 104);
        row("the day after is free", x, 2, 204, 100, 104);
        x.clear();
        x.plan(0, 3, 1, 100);
        x.plan(1, 1, 1, 99);
        row("the other way round", x, 1, 99, -1, 99);
        x.clear();
        x.plan(0, 3, 1, 100);
        x.plan(1, 1, 1, 98);
        row("the day ahead is free", x, 2, 198, 100, 98);
        x.clear();
        x.plan(0, 30, 1, 100);
        x.plan(1, 1, 1, 110);
        row("one within the other", x, 1, 100, 100, -1);
        x.clear();
        x.plan(0, 30, 1, 100);
        x.plan(2, 30, 1, 100);
        row("no town alike", x, 2, 200, 100, 100);
        x.clear();
        x.plan(0, 30, 1, 3599);
        x.plan(0, 30, 1, 3590);
        row("one charter twice, at the end of days", x, 1, 3590, -1, 3590);
    }

    private static void leastSum() {
        TownTwins x = towns();
        x.plan(0, 2, 4, days(500, 400, 300, 200));
        x.plan(1, 2, 2, days(200, 350));
        row("the least sum", x, 2, 500, 300, 200);
        x.plan(1, 30, 1, days(290));
        row("most plans first", x, 3, 840, 200, 350, 290);
    }

    private static void likeOnes() {
        TownTwins x = towns();
        x.plan(0, 1, 2, days(10, 20));
        x.plan(1, 1, 2, days(20, 10));
        row("the first row", x, 2, 30, 10, 20);
        x.clear();
        x.plan(0, 1, 2, days(20, 10));
        x.plan(1, 1, 2, days(10, 20));
        row("by the place among its days, not by the day", x, 2, 30, 20, 10);
        x.clear();
        x.plan(0, 1, 1, 10);
        x.plan(1, 1, 1, 10);
        row("none behind all", x, 1, 10, 10, -1);
        x.clear();
        x.plan(0, 1, 2, days(0, 0));
        x.plan(1, 1, 1, 0);
        row("day 0", x, 1, 0, 0, -1);
    }

    private static void kept() {
        TownTwins x = towns();
        x.plan(0, 1, 1, 10);
        CHECKS.noSuch("nothing is kept", () -> x.planned(0));
        CHECKS.noSuch("not even a sum", () -> x.planned(-1));
        x.calendar();
        x.plan(1, 1, 1, 50);
        CHECKS.noSuch("a plan made later", () -> x.planned(1));
        CHECKS.noSuch("plan -2", () -> x.planned(-2));
        x.clear();
        CHECKS.due("what is kept stays", x.planned(0), 10);
        CHECKS.due("its sum too", x.planned(-1), 10);
        row("no plans", x, 0, 0);
    }
}

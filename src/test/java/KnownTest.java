/** Promises 10 to 12: charters, events and balances, as they were known on any day. */
public final class KnownTest {
    private static final Checks CHECKS = new Checks("KnownTest");

    public static void main(String[] args) {
        wrongCalls();
        alive();
        turn();
        sleeps();
        sleepValues();
        generous();
        toldByKinds();
        claims();
        visitValues();
        potShared();
        potOfLikeOnes();
        potByYears();
        costs();
        balances();
        rulesByDays();
        fullObject();
        CHECKS.end();
    }

    private static TownTwins towns() {
        TownTwins x = new TownTwins();
        x.town(100, 200, 30, 7);
        x.town(103, 196, 45, 6);
        x.town(0, 0, 1, 8);
        return x;
    }

    private static int visit(TownTwins x, int charter, int guests, int side, int nights, int day) {
        return x.event(1, charter, guests, side, nights, 0, day);
    }

    private static int gift(TownTwins x, int charter, int pence, int side, int day) {
        return x.event(2, charter, pence, side, 0, 0, day);
    }

    private static int broken(TownTwins x, int charter, int day) {
        return x.event(0, charter, 0, 0, 0, 0, day);
    }

    private static void wrongCalls() {
        TownTwins x = towns();
        x.charter(0, 1, 5);
        x.days(20);
        visit(x, 0, 1, 0, 1, 7);
        CHECKS.noSuch("about charter 1", () -> x.about(1, 0, 5, 20));
        CHECKS.noSuch("about charter -1", () -> x.about(-1, 0, 5, 20));
        CHECKS.noSuch("about what 5", () -> x.about(0, 5, 5, 20));
        CHECKS.noSuch("about what -1", () -> x.about(0, -1, 5, 20));
        CHECKS.noSuch("about day 3600", () -> x.about(0, 0, 3600, 20));
        CHECKS.noSuch("about day -1", () -> x.about(0, 0, -1, 20));
        CHECKS.refused("about as known on 21", () -> x.about(0, 0, 5, 21));
        CHECKS.refused("about as known on -1", () -> x.about(0, 0, 5, -1));
        CHECKS.noSuch("about charter 1, known on -1", () -> x.about(1, 0, 5, -1));
        CHECKS.noSuch("about day -1, known on -1", () -> x.about(0, 0, -1, -1));
        CHECKS.noSuch("told of event 1", () -> x.told(1, 0, 20));
        CHECKS.noSuch("told of event -1", () -> x.told(-1, 0, 20));
        CHECKS.noSuch("told what 4", () -> x.told(0, 4, 20));
        CHECKS.noSuch("told what -1", () -> x.told(0, -1, 20));
        CHECKS.refused("told as known on 21", () -> x.told(0, 0, 21));
        CHECKS.refused("told as known on -1", () -> x.told(0, 0, -1));
        CHECKS.noSuch("told what 4, known on 21", () -> x.told(0, 4, 21));
        CHECKS.noSuch("balance of charter 1", () -> x.balance(1, 0, 5, 20));
        CHECKS.noSuch("balance of side 2", () -> x.balance(0, 2, 5, 20));
        CHECKS.noSuch("balance of side -1", () -> x.balance(0, -1, 5, 20));
        CHECKS.noSuch("balance by day 3600", () -> x.balance(0, 0, 3600, 20));
        CHECKS.noSuch("balance by day -1", () -> x.balance(0, 0, -1, 20));
        CHECKS.refused("balance as known on 21", () -> x.balance(0, 0, 5, 21));
        CHECKS.refused("balance as known on -1", () -> x.balance(0, 0, 5, -1));
        CHECKS.noSuch("balance of side 2, known on 21", () -> x.balance(0, 2, 5, 21));
        CHECKS.due("about the last day", x.about(0, 0, 3599, 20), 1);
    }

    private static void alive() {
        TownTwins x = towns();
        x.days(50);
        x.charter(0, 1, 30);
        x.charter(0, 1, 30);
        x.charter(0, 2, 1000);
        for (int what = 0; what < 5; what++) {
            CHECKS.due("of a charter not known, " + what, x.about(0, what, 3000, 49), what == 4 ? -1 : 0);
        }
        CHECKS.due("ahead of its day", x.about(0, 0, 29, 50), 0);
        CHECKS.due("on its day", x.about(0, 0, 30, 50), 1);
        CHECKS.due("a charter to come", x.about(2, 0, 999, 50), 0);
        CHECKS.due("it has come", x.about(2, 0, 1000, 50), 1);
        x.days(10);
        broken(x, 0, 45);
        CHECKS.due("the day ahead of the break", x.about(0, 0, 44, 60), 1);
        CHECKS.due("the day of the break", x.about(0, 0, 45, 60), 0);
        CHECKS.due("long after", x.about(0, 0, 3599, 60), 0);
        CHECKS.due("before it was told", x.about(0, 0, 45, 59), 1);
        CHECKS.due("another charter", x.about(1, 0, 45, 60), 1);
        x.days(1);
        broken(x, 0, 40);
        CHECKS.due("the earlier break counts", x.about(0, 0, 40, 61), 0);
        CHECKS.due("the later one as known then", x.about(0, 0, 40, 60), 1);
        broken(x, 1, 10);
        CHECKS.due("broken ahead of its own day", x.about(1, 0, 30, 61), 0);
        x.days(1);
        x.back(1);
        CHECKS.due("the first break alone", x.about(0, 0, 44, 62), 1);
        CHECKS.due("still broken on 45", x.about(0, 0, 45, 62), 0);
        CHECKS.due("as known on 61", x.about(0, 0, 44, 61), 0);
    }

    private static void turn() {
        TownTwins x = towns();
        x.charter(0, 1, 10);
        x.days(100);
        CHECKS.due("turn without visits", x.about(0, 1, 50, 100), 0);
        visit(x, 0, 1, 1, 1, 20);
        visit(x, 0, 1, 0, 1, 20);
        visit(x, 0, 1, 1, 1, 15);
        visit(x, 0, 1, 0, 1, 5);
        CHECKS.due("ahead of its day a visit does not count", x.about(0, 1, 10, 100), 0);
        CHECKS.due("turn after 15", x.about(0, 1, 15, 100), 0);
        CHECKS.due("turn ahead of 20", x.about(0, 1, 19, 100), 0);
        CHECKS.due("turn on 20: the later number", x.about(0, 1, 20, 100), 1);
        CHECKS.due("visits by 14", x.about(0, 3, 14, 100), 0);
        CHECKS.due("visits by 15", x.about(0, 3, 15, 100), 1);
        CHECKS.due("visits by 20", x.about(0, 3, 20, 100), 3);
        broken(x, 0, 20);
        CHECKS.due("visits by 20, broken then", x.about(0, 3, 20, 100), 1);
        CHECKS.due("turn of a broken one", x.about(0, 1, 3599, 100), 0);
        CHECKS.due("told of a visit when broken", x.told(0, 0, 100), 0);
        CHECKS.due("told of a visit ahead", x.told(2, 0, 100), 1);
        CHECKS.due("told of a visit ahead of the charter", x.told(3, 0, 100), 0);
    }

    private static void sleeps() {
        TownTwins x = towns();
        x.charter(0, 1, 10);
        x.days(100);
        CHECKS.due("1080 days", x.about(0, 2, 1090, 100), 0);
        CHECKS.due("1081 days", x.about(0, 2, 1091, 100), 1);
        visit(x, 0, 1, 0, 1, 60);
        CHECKS.due("1081 days, but a visit", x.about(0, 2, 1091, 100), 0);
        CHECKS.due("1080 since it", x.about(0, 2, 1140, 100), 0);
        CHECKS.due("1081 since it", x.about(0, 2, 1141, 100), 1);
        x.days(10);
        Checks.tell(x, "pot 7; grant 1;");
        CHECKS.due("rules without sleep", x.about(0, 2, 1141, 110), 1);
        x.days(10);
        Checks.tell(x, "sleep 0; sleep 0 - 1 unless since < 5;");
        CHECKS.due("some sleep is not 0", x.about(0, 2, 65, 120), 1);
        CHECKS.due("unless", x.about(0, 2, 64, 120), 0);
        CHECKS.due("by the rules known then", x.about(0, 2, 65, 119), 0);
        CHECKS.due("one that is not alive", x.about(0, 2, 9, 120), 0);
        x.days(10);
        Checks.tell(x, "sleep 0;");
        CHECKS.due("never", x.about(0, 2, 3599, 130), 0);
        x.days(10);
        broken(x, 0, 130);
        Checks.tell(x, "sleep 1;");
        CHECKS.due("broken ones do not sleep", x.about(0, 2, 130, 140), 0);
        CHECKS.due("ahead of that it does", x.about(0, 2, 129, 140), 1);
    }

    private static void sleepIs(String value, long due) {
        TownTwins x = towns();
        x.charter(0, 1, 100);
        x.days(800);
        visit(x, 0, 2, 0, 3, 390);
        visit(x, 0, 2, 1, 3, 400);
        visit(x, 0, 2, 0, 3, 500);
        CHECKS.due("rules", Checks.tell(x, "grant 5; sleep " + value + " = " + due + ";"), 0);
        CHECKS.due("a visit's claim ahead, which must leave nothing behind", x.told(2, 1, 800), 5);
        CHECKS.due(value + " for sleep on 500 is " + due, x.about(0, 2, 500, 800), 1);
    }

    private static void sleepValues() {
        sleepIs("guests", 0);
        sleepIs("nights", 0);
        sleepIs("young", 0);
        sleepIs("people", 75);
        sleepIs("turn", 1);
        sleepIs("miles", 7);
        sleepIs("common", 2);
        sleepIs("since", 0);
        sleepIs("age", 400);
        sleepIs("visits", 3);
        sleepIs("year", 1);
    }

    private static void generous() {
        TownTwins x = towns();
        x.charter(0, 1, 10);
        x.charter(0, 1, 10);
        x.days(100);
        gift(x, 0, 5, 1, 50);
        gift(x, 0, 5, 1, 40);
        CHECKS.due("two gifts", x.about(0, 4, 100, 100), -1);
        gift(x, 1, 5, 1, 60);
        CHECKS.due("a gift of another charter", x.about(0, 4, 100, 100), -1);
        gift(x, 0, 5, 1, 9);
        CHECKS.due("a gift ahead of the charter", x.about(0, 4, 100, 100), -1);
        gift(x, 0, 5, 0, 30);
        CHECKS.due("one of the other side", x.about(0, 4, 100, 100), -1);
        gift(x, 0, 5, 1, 40);
        CHECKS.due("the last three are of one side", x.about(0, 4, 100, 100), 1);
        CHECKS.due("by 49 not yet", x.about(0, 4, 49, 100), -1);
        CHECKS.due("by 50", x.about(0, 4, 50, 100), 1);
        gift(x, 0, 5, 0, 50);
        CHECKS.due("the last is the other's", x.about(0, 4, 100, 100), -1);
        gift(x, 0, 5, 0, 51);
        gift(x, 0, 5, 0, 51);
        CHECKS.due("three of side 0", x.about(0, 4, 51, 100), 0);
        x.back(8);
        CHECKS.due("one taken back", x.about(0, 4, 51, 100), -1);
    }

    private static void toldByKinds() {
        TownTwins x = towns();
        x.charter(0, 1, 10);
        x.days(100);
        Checks.tell(x, "grant 50; rate 2;");
        int visit = visit(x, 0, 3, 0, 5, 20);
        int gift = gift(x, 0, 77, 0, 20);
        int late = gift(x, 0, 77, 0, 60);
        int broken = broken(x, 0, 60);
        int again = broken(x, 0, 5);
        x.back(again);
        int[][] due = {{1, 50, 50, 30}, {1, 0, 0, 0}, {0, 0, 0, 0}, {1, 0, 0, 0}, {0, 0, 0, 0}};
        int[] events = {visit, gift, late, broken, again};
        for (int i = 0; i < events.length; i++) {
            for (int what = 0; what < 4; what++) {
                CHECKS.due("told(" + i + ", " + what + ")", x.told(events[i], what, 100), due[i][what]);
                CHECKS.due("told(" + i + ", " + what + ") ahead", x.told(events[i], what, 99), 0);
            }
        }
    }

    private static void claims() {
        TownTwins x = towns();
        x.charter(0, 1, 0);
        x.days(100);
        visit(x, 0, 3, 0, 5, 20);
        Checks.tell(x, "grant 999999 * 2; grant 0 - 5; grant 7; grant 100 unless 1; sleep 500; pot 999999;");
        CHECKS.due("each grant within its bounds", x.told(0, 1, 100), 1000006);
        CHECKS.due("but the pot is smaller", x.told(0, 2, 100), 999999);
        Checks.tell(x, "grant 100000;");
        CHECKS.due("the pot without a pot", x.told(0, 2, 100), 100000);
        Checks.tell(x, "grant 100001;");
        CHECKS.due("it reaches no farther", x.told(0, 2, 100), 100000);
        Checks.tell(x, "grant 5; pot 4; pot 9; pot 3;");
        CHECKS.due("the last pot", x.told(0, 2, 100), 3);
        Checks.tell(x, "grant 5; pot 0;");
        CHECKS.due("no pot", x.told(0, 2, 100), 0);
        CHECKS.due("but a claim", x.told(0, 1, 100), 5);
    }

    private static void visitIs(String value, long first, long second, long third) {
        TownTwins x = towns();
        x.charter(0, 1, 100);
        x.charter(2, 1, 100);
        x.days(800);
        Checks.tell(x, "grant " + value + ";");
        x.event(1, 0, 4, 1, 5, 3, 500);
        x.event(1, 0, 6, 0, 7, 2, 400);
        x.event(1, 0, 8, 0, 9, 1, 500);
        x.event(1, 1, 8, 0, 9, 1, 450);
        CHECKS.due(value + " of the one that goes first", x.told(1, 1, 800), first);
        CHECKS.due(value + " of the second", x.told(0, 1, 800), second);
        CHECKS.due(value + " of the third", x.told(2, 1, 800), third);
    }

    private static void visitValues() {
        visitIs("guests", 6, 4, 8);
        visitIs("nights", 7, 5, 9);
        visitIs("young", 2, 3, 1);
        visitIs("people", 30, 45, 30);
        visitIs("turn", 1, 1, 1);
        visitIs("since", 300, 100, 0);
        visitIs("age", 300, 400, 400);
        visitIs("visits", 0, 1, 2);
        visitIs("year", 1, 1, 1);
        visitIs("miles", 7, 7, 7);
        visitIs("common", 2, 2, 2);
        TownTwins x = towns();
        x.charter(0, 1, 0);
        x.days(10);
        Checks.tell(x, "grant 5 + turn;");
        visit(x, 0, 1, 1, 1, 1);
        visit(x, 0, 1, 1, 1, 2);
        visit(x, 0, 1, 0, 1, 2);
        CHECKS.due("side 1 out of turn at first", x.told(0, 1, 10), 5);
        CHECKS.due("side 1 out of turn again", x.told(1, 1, 10), 5);
        CHECKS.due("side 0 in turn", x.told(2, 1, 10), 6);
    }

    private static void potShared() {
        TownTwins x = towns();
        x.charter(0, 1, 0);
        x.charter(1, 2, 0);
        x.days(400);
        Checks.tell(x, "grant guests; pot 10;");
        visit(x, 0, 3, 0, 1, 100);
        visit(x, 1, 5, 0, 1, 50);
        visit(x, 0, 7, 1, 1, 359);
        // 30, 50 and 70 by 15: 2 (0 left), 3 (5 left), 4 (10 left); one is over
        CHECKS.due("the least loss", x.told(0, 2, 400), 2);
        CHECKS.due("the middle one", x.told(1, 2, 400), 3);
        CHECKS.due("the greatest loss", x.told(2, 2, 400), 5);
        visit(x, 0, 200, 0, 1, 360);
        CHECKS.due("another year's visit takes nothing", x.told(2, 2, 400), 5);
        CHECKS.due("it has its own pot", x.told(3, 2, 400), 10);
        visit(x, 0, 4, 0, 1, 0);
        // 30, 50, 70, 40 by 19: 1 (11), 2 (12), 3 (13), 2 (2); two are over
        CHECKS.due("with a fourth: 0", x.told(0, 2, 400), 1);
        CHECKS.due("with a fourth: 1", x.told(1, 2, 400), 3);
        CHECKS.due("with a fourth: 2", x.told(2, 2, 400), 4);
        CHECKS.due("with a fourth: 4", x.told(4, 2, 400), 2);
        x.back(4);
        broken(x, 0, 359);
        CHECKS.due("all claims can be met", x.told(1, 2, 400), 5);
        CHECKS.due("those that count no more get none", x.told(2, 2, 400), 0);
    }

    private static void potOfLikeOnes() {
        TownTwins x = towns();
        x.charter(0, 1, 0);
        x.days(300);
        Checks.tell(x, "grant 7; pot 11;");
        visit(x, 0, 1, 0, 1, 200);
        visit(x, 0, 1, 0, 1, 100);
        visit(x, 0, 1, 0, 1, 100);
        // 77 by 21: 3 each (14 left), two are over: they go by days, then by numbers
        CHECKS.due("the last by days", x.told(0, 2, 300), 3);
        CHECKS.due("the first by days", x.told(1, 2, 300), 4);
        CHECKS.due("the second by numbers", x.told(2, 2, 300), 4);
        Checks.tell(x, "grant 7; pot 10;");
        CHECKS.due("one over: not the last", x.told(0, 2, 300), 3);
        CHECKS.due("one over: the first", x.told(1, 2, 300), 4);
        CHECKS.due("one over: not the second", x.told(2, 2, 300), 3);
        Checks.tell(x, "grant 7; pot 21;");
        CHECKS.due("just enough", x.told(0, 2, 300), 7);
        Checks.tell(x, "grant 7 unless visits; pot 21;");
        CHECKS.due("a claim of 0", x.told(0, 2, 300), 0);
    }

    private static void potByYears() {
        TownTwins x = towns();
        x.charter(0, 1, 0);
        x.days(3599);
        Checks.tell(x, "grant 100 + year; pot 150;");
        for (int day = 0; day < 3600; day += 180) {
            visit(x, 0, 1, 0, 1, day);
        }
        for (int e = 0; e < 20; e++) {
            CHECKS.due("claim of " + e, x.told(e, 1, 3599), 100 + e / 2);
            CHECKS.due("grant of " + e, x.told(e, 2, 3599), 75);
        }
    }

    private static void costs() {
        TownTwins x = towns();
        x.charter(0, 1, 0);
        x.days(300);
        visit(x, 0, 200, 0, 30, 200);
        CHECKS.due("the rate without rules", x.told(0, 3, 300), 120000);
        Checks.tell(x, "rate 999999;");
        CHECKS.due("more than an int", x.told(0, 3, 300), 5999994000L);
        Checks.tell(x, "rate 5; rate 0;");
        CHECKS.due("the last rate", x.told(0, 3, 300), 0);
        Checks.tell(x, "grant 1;");
        CHECKS.due("the rate of rules without one", x.told(0, 3, 300), 120000);
    }

    private static void balances() {
        TownTwins x = towns();
        x.days(1);
        x.charter(0, 1, 10);
        x.charter(0, 1, 10);
        x.days(99);
        CHECKS.due("of a charter not known", x.balance(0, 0, 50, 0), 0);
        Checks.tell(x, "rate 1; grant 4;");
        visit(x, 0, 3, 0, 5, 20);
        visit(x, 0, 3, 1, 3, 30);
        gift(x, 0, 1000, 0, 40);
        gift(x, 0, 300, 1, 40);
        gift(x, 1, 7, 1, 40);
        visit(x, 0, 3, 1, 3, 9);
        CHECKS.due("side 0 by 19", x.balance(0, 0, 19, 100), 0);
        CHECKS.due("side 0 by 20", x.balance(0, 0, 20, 100), 4);
        CHECKS.due("side 1 by 20", x.balance(0, 1, 20, 100), 7);
        CHECKS.due("side 0 by 30", x.balance(0, 0, 30, 100), 8);
        CHECKS.due("side 1 by 30", x.balance(0, 1, 30, 100), 8);
        CHECKS.due("side 0 by 40", x.balance(0, 0, 40, 100), 1008);
        CHECKS.due("side 1 by 40", x.balance(0, 1, 40, 100), 308);
        CHECKS.due("side 1 of the other", x.balance(1, 1, 3599, 100), 7);
        CHECKS.due("side 0 of the other", x.balance(1, 0, 3599, 100), 0);
        x.days(1);
        broken(x, 0, 30);
        CHECKS.due("side 0, broken on 30", x.balance(0, 0, 3599, 101), 4);
        CHECKS.due("side 0 as known ahead", x.balance(0, 0, 3599, 100), 1008);
    }

    private static void rulesByDays() {
        TownTwins x = towns();
        x.charter(0, 1, 0);
        visit(x, 0, 1, 0, 1, 0);
        Checks.tell(x, "grant 1;");
        Checks.tell(x, "grant 2;");
        x.days(5);
        Checks.tell(x, "grant 3;");
        CHECKS.due("a fault", Checks.tell(x, "grant 4"), 1);
        CHECKS.due("the last told on 0", x.told(0, 1, 0), 2);
        CHECKS.due("it counts up to 4", x.told(0, 1, 4), 2);
        CHECKS.due("the last told on 5, for all days", x.told(0, 1, 5), 3);
        x.days(5);
        x.rules(0);
        CHECKS.due("no clause, no grant", x.told(0, 1, 10), 0);
    }

    /** 24 charters and 200 events: every row is full. */
    private static void fullObject() {
        TownTwins x = new TownTwins();
        for (int i = 0; i < 16; i++) {
            x.town(i, i, 10, 255);
        }
        for (int i = 0; i < 24; i++) {
            x.charter(i % 16, (i + 1) % 16, 0);
        }
        x.days(3599);
        for (int i = 0; i < 200; i++) {
            CHECKS.due("event " + i, visit(x, i < 100 ? 23 : i % 24, 1, i % 2, 1, 3599 - i), i);
        }
        Checks.tell(x, "grant 2; pot 199; rate 3;");
        // all are in the last year, and their claims come to 400: one penny each, the last by days gets none
        long sum = 0;
        for (int e = 0; e < 200; e++) {
            long grant = x.told(e, 2, 3599);
            CHECKS.due("a grant is one, but for the last", grant, e == 0 ? 0 : 1);
            sum += grant;
        }
        CHECKS.due("the pot is gone", sum, 199);
        CHECKS.due("visits of the last charter", x.about(23, 3, 3599, 3599), 104);
        CHECKS.due("turn of the last charter", x.about(23, 1, 3599, 3599), 1);
        CHECKS.due("it does not sleep", x.about(23, 2, 3599, 3599), 0);
        CHECKS.due("nobody is generous", x.about(23, 4, 3599, 3599), -1);
        // side 0 travelled on even numbers: 50 times, two less one penny each, and bore one of the others' 54
        CHECKS.due("balance of side 0", x.balance(23, 0, 3599, 3599), 50 + 1 + 54);
        CHECKS.due("balance of side 1", x.balance(23, 1, 3599, 3599), 54 + 50);
        CHECKS.due("another event", visit(x, 0, 1, 0, 1, 0), -1);
        CHECKS.due("back(0)", x.back(0), true);
        CHECKS.due("the pot reaches for all but none of what is back", x.told(0, 2, 3599), 0);
        CHECKS.due("one penny each", x.told(1, 2, 3599), 1);
    }
}

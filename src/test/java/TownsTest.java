/** Promises 1 to 6 and 27: a new object, towns, charters, days, events, what is taken back, counts. */
public final class TownsTest {
    private static final Checks CHECKS = new Checks("TownsTest");

    public static void main(String[] args) {
        newObject();
        towns();
        charters();
        days();
        events();
        manyEvents();
        back();
        counts();
        CHECKS.end();
    }

    private static void newObject() {
        TownTwins x = new TownTwins();
        for (int what = 0; what <= 8; what++) {
            CHECKS.due("count(" + what + ") of a new object", x.count(what), 0);
        }
        CHECKS.due("fault() of a new object", x.fault(), -1);
        CHECKS.noSuch("friend(0) of a new object", () -> x.friend(0));
        CHECKS.noSuch("lodged(-1) of a new object", () -> x.lodged(-1));
        CHECKS.noSuch("planned(-1) of a new object", () -> x.planned(-1));
        CHECKS.due("days(0) of a new object", x.days(0), 0);
    }

    private static void towns() {
        TownTwins x = new TownTwins();
        int[][] wrong = {
            {-1, 0, 1, 1}, {1000, 0, 1, 1}, {0, -1, 1, 1}, {0, 1000, 1, 1}, {0, 0, 0, 1}, {0, 0, 10000, 1},
            {0, 0, 1, 0}, {0, 0, 1, 256}, {0, 0, 1, -1}, {Integer.MIN_VALUE, 0, 1, 1}, {0, 0, Integer.MAX_VALUE, 1},
        };
        for (int[] t : wrong) {
            CHECKS.due("town that is not as told", x.town(t[0], t[1], t[2], t[3]), -1);
        }
        CHECKS.due("towns after wrong ones", x.count(1), 0);
        CHECKS.due("least town", x.town(0, 0, 1, 1), 0);
        CHECKS.due("greatest town", x.town(999, 999, 9999, 255), 1);
        for (int i = 2; i < 16; i++) {
            CHECKS.due("town " + i, x.town(5, 5, 5, 128), i);
        }
        CHECKS.due("the 17th town", x.town(5, 5, 5, 5), -1);
        CHECKS.due("count(1)", x.count(1), 16);
    }

    private static void charters() {
        TownTwins x = new TownTwins();
        x.town(0, 0, 1, 1);
        x.town(1, 1, 1, 1);
        CHECKS.noSuch("charter of town 2", () -> x.charter(0, 2, 5));
        CHECKS.noSuch("charter of town -1", () -> x.charter(-1, 0, 5));
        CHECKS.noSuch("charter of town 2 with itself", () -> x.charter(2, 2, 5));
        CHECKS.noSuch("charter of town 2 on no day", () -> x.charter(2, 0, -5));
        CHECKS.due("charter with itself", x.charter(1, 1, 5), -1);
        CHECKS.due("charter on day -1", x.charter(0, 1, -1), -1);
        CHECKS.due("charter on day 3600", x.charter(0, 1, 3600), -1);
        CHECKS.due("charter on day 3599", x.charter(0, 1, 3599), 0);
        for (int i = 1; i < 24; i++) {
            CHECKS.due("charter " + i, x.charter(1, 0, 0), i);
        }
        CHECKS.due("the 25th charter", x.charter(0, 1, 0), -1);
        CHECKS.noSuch("the 25th charter of no town", () -> x.charter(0, 9, 0));
        CHECKS.due("count(2)", x.count(2), 24);
    }

    private static void days() {
        TownTwins x = new TownTwins();
        CHECKS.refused("days(-1)", () -> x.days(-1));
        CHECKS.refused("days(3600)", () -> x.days(3600));
        CHECKS.refused("days(MAX)", () -> x.days(Integer.MAX_VALUE));
        CHECKS.due("days(3590)", x.days(3590), 3590);
        CHECKS.refused("days(10) more", () -> x.days(10));
        CHECKS.refused("days(MAX) more", () -> x.days(Integer.MAX_VALUE));
        CHECKS.due("days(9)", x.days(9), 3599);
        CHECKS.due("days(0)", x.days(0), 3599);
        CHECKS.refused("days(1)", () -> x.days(1));
        CHECKS.due("count(0)", x.count(0), 3599);
    }

    private static TownTwins withCharter() {
        TownTwins x = new TownTwins();
        x.town(0, 0, 1, 1);
        x.town(1, 1, 1, 1);
        x.charter(0, 1, 0);
        x.days(10);
        return x;
    }

    private static void events() {
        TownTwins x = withCharter();
        CHECKS.noSuch("kind 3", () -> x.event(3, 0, 1, 0, 1, 0, 0));
        CHECKS.noSuch("kind -1", () -> x.event(-1, 0, 1, 0, 1, 0, 0));
        CHECKS.noSuch("charter 1", () -> x.event(1, 1, 1, 0, 1, 0, 0));
        CHECKS.noSuch("charter -1", () -> x.event(1, -1, 1, 0, 1, 0, 0));
        CHECKS.noSuch("charter 1 on no day", () -> x.event(1, 1, 1, 0, 1, 0, 99));
        int[][] wrong = {
            {0, 0, 1, 0, 0, 0, 5}, {0, 0, -1, 0, 0, 0, 5}, {0, 0, 0, 0, 0, 0, 11}, {0, 0, 0, 0, 0, 0, -1},
            {1, 0, 0, 0, 1, 0, 5}, {1, 0, 201, 0, 1, 0, 5}, {1, 0, 5, 2, 1, 0, 5}, {1, 0, 5, -1, 1, 0, 5},
            {1, 0, 5, 0, 0, 0, 5}, {1, 0, 5, 0, 31, 0, 5}, {1, 0, 5, 0, 1, -1, 5}, {1, 0, 5, 0, 1, 6, 5},
            {1, 0, 5, 0, 1, 0, 11}, {1, 0, 5, 0, 1, 0, -1}, {2, 0, 0, 0, 0, 0, 5}, {2, 0, 100000, 0, 0, 0, 5},
            {2, 0, 5, 2, 0, 0, 5}, {2, 0, 5, -1, 0, 0, 5}, {2, 0, 5, 0, 0, 0, 11}, {2, 0, 5, 0, 0, 0, -1},
        };
        for (int i = 0; i < wrong.length; i++) {
            int[] e = wrong[i];
            CHECKS.due("wrong event " + i, x.event(e[0], e[1], e[2], e[3], e[4], e[5], e[6]), -1);
        }
        CHECKS.due("events after wrong ones", x.count(3), 0);
        int[][] right = {
            {0, 0, 0, 7, -7, 99, 10}, {1, 0, 1, 0, 1, 0, 0}, {1, 0, 200, 1, 30, 200, 10},
            {2, 0, 1, 0, -4, -4, 0}, {2, 0, 99999, 1, 77, 77, 10}, {0, 0, 0, 0, 0, 0, 0},
        };
        for (int i = 0; i < right.length; i++) {
            int[] e = right[i];
            CHECKS.due("right event " + i, x.event(e[0], e[1], e[2], e[3], e[4], e[5], e[6]), i);
        }
    }

    private static void manyEvents() {
        TownTwins x = withCharter();
        for (int i = 0; i < 200; i++) {
            CHECKS.due("event " + i, x.event(2, 0, 1, 0, 0, 0, i % 11), i);
        }
        CHECKS.due("the 201st event", x.event(2, 0, 1, 0, 0, 0, 0), -1);
        CHECKS.noSuch("the 201st event of no kind", () -> x.event(4, 0, 1, 0, 0, 0, 0));
        CHECKS.due("count(3)", x.count(3), 200);
        CHECKS.due("balance of 200 gifts", x.balance(0, 0, 3599, 10), 200);
        CHECKS.due("back(199)", x.back(199), true);
        CHECKS.due("balance of 199 gifts", x.balance(0, 0, 3599, 10), 199);
        CHECKS.due("what is taken back keeps its number", x.event(2, 0, 1, 0, 0, 0, 0), -1);
    }

    private static void back() {
        TownTwins x = withCharter();
        CHECKS.noSuch("back(0) without events", () -> x.back(0) ? 1 : 0);
        x.event(2, 0, 7, 0, 0, 0, 3);
        CHECKS.noSuch("back(1)", () -> x.back(1) ? 1 : 0);
        CHECKS.noSuch("back(-1)", () -> x.back(-1) ? 1 : 0);
        x.days(5);
        CHECKS.due("balance ahead of back", x.balance(0, 0, 3, 15), 7);
        CHECKS.due("back(0)", x.back(0), true);
        CHECKS.due("back(0) again", x.back(0), false);
        CHECKS.due("as known when it was taken back", x.told(0, 0, 15), 0);
        CHECKS.due("as known a day ahead", x.told(0, 0, 14), 1);
        CHECKS.due("as known when it was told", x.told(0, 0, 10), 1);
        CHECKS.due("as known ahead of that", x.told(0, 0, 9), 0);
        CHECKS.due("balance when it was taken back", x.balance(0, 0, 3, 15), 0);
        CHECKS.due("balance a day ahead", x.balance(0, 0, 3, 14), 7);
        x.days(5);
        CHECKS.due("back(0) later", x.back(0), false);
        CHECKS.due("a second back moves nothing", x.told(0, 0, 15), 0);
    }

    private static void counts() {
        TownTwins x = withCharter();
        x.event(0, 0, 0, 0, 0, 0, 0);
        x.home(1, 1, false, 1);
        x.home(1, 1, false, 1);
        x.guest(1, 1, true);
        x.plan(0, 1, 1, 5);
        x.plan(0, 1, 1, 5);
        x.plan(0, 1, 1, 5);
        x.rules(0);
        x.rules(0);
        x.feed(0, 0, 0, 0, 0);
        int[] due = {10, 2, 1, 1, 2, 1, 3, 2, 20};
        for (int what = 0; what < due.length; what++) {
            CHECKS.due("count(" + what + ")", x.count(what), due[what]);
        }
        CHECKS.noSuch("count(9)", () -> x.count(9));
        CHECKS.noSuch("count(-1)", () -> x.count(-1));
    }
}

/**
 * Promises 10 to 12, with part 1 (ALIVE, COUNTS, TURN) and the second half of part 2 of the terms (values,
 * claims, grants, sleep, costs, balances): each sentence that names an edge, by itself.
 */
public final class UnionEdgesTest {
    private static final Checks CHECKS = new Checks("UnionEdgesTest");
    private static final int LEAST = Integer.MIN_VALUE;
    private static final int MOST = Integer.MAX_VALUE;

    public static void main(String[] args) {
        aboutOfNothing();
        toldOfNothing();
        balanceOfNothing();
        knownFromTheDayItWasTold();
        aliveFromItsOwnDay();
        brokenOnItsOwnDay();
        brokenMoreThanOnce();
        countsOnlyWhenAlive();
        goByDaysThenNumbers();
        turnOnTheDay();
        turnOfWhatDoesNotCount();
        sleepsAbove1080();
        sleepsOnlyAlive();
        someSleep();
        generousOfThree();
        generousCountsOnly();
        toldOfWhatIsNoVisit();
        rulesOnKOrAhead();
        valuesOfAVisit();
        valuesForSleep();
        miles();
        common();
        yearsCutDown();
        grantsEach();
        claimOfTwelve();
        potReaches();
        potPerYear();
        potOfNothing();
        lostMost();
        greatShares();
        costHalved();
        rateAtItsEdges();
        balanceByADay();
        balanceOfWhatCounts();
        CHECKS.end();
    }

    private static TownTwins twoTowns() {
        TownTwins x = new TownTwins();
        x.town(10, 20, 30, 7);
        x.town(15, 8, 45, 6);
        return x;
    }

    private static TownTwins charterFrom(int day, int today) {
        TownTwins x = twoTowns();
        x.charter(0, 1, day);
        x.days(today);
        return x;
    }

    private static int visit(TownTwins x, int side, int day) {
        return x.event(1, 0, 1, side, 1, 0, day);
    }

    private static int gift(TownTwins x, int side, int day) {
        return x.event(2, 0, 10, side, 0, 0, day);
    }

    private static int broken(TownTwins x, int day) {
        return x.event(0, 0, 0, 0, 0, 0, day);
    }

    /** 10: NoSuchElementException: another what, no such DAY (0 to 3599). IllegalArgumentException: k is not 0 to TODAY. */
    private static void aboutOfNothing() {
        TownTwins x = charterFrom(0, 20);
        String before = Checks.state(x);
        for (int wrong : new int[] {LEAST, -1, 1, 24, MOST}) {
            CHECKS.noSuch("10: charter " + wrong, () -> x.about(wrong, 0, 0, 0));
            CHECKS.noSuch("10: charter " + wrong + ", k 21", () -> x.about(wrong, 0, 0, 21));
        }
        for (int wrong : new int[] {LEAST, -1, 5, MOST}) {
            CHECKS.noSuch("10: what " + wrong, () -> x.about(0, wrong, 0, 0));
            CHECKS.noSuch("10: what " + wrong + ", k -1", () -> x.about(0, wrong, 0, -1));
        }
        for (int what = 0; what <= 4; what++) {
            int of = what;
            for (int wrong : new int[] {LEAST, -1, 3600, MOST}) {
                CHECKS.noSuch("10: day " + wrong, () -> x.about(0, of, wrong, 0));
                CHECKS.noSuch("10: day " + wrong + ", k 21", () -> x.about(0, of, wrong, 21));
            }
            for (int wrong : new int[] {LEAST, -1, 21, MOST}) {
                CHECKS.refused("10: k " + wrong, () -> x.about(0, of, 0, wrong));
            }
            int last = what == 4 ? -1 : what == 0 || what == 2 ? 1 : 0;
            CHECKS.due("10: what " + what + " on the last day, k 0", x.about(0, what, 3599, 0), last);
            CHECKS.due("10: what " + what + " on the last day, k TODAY", x.about(0, what, 3599, 20), last);
        }
        CHECKS.unchanged("10: a question", x, before);
    }

    /** 11: NoSuchElementException: no such EVENT, another what. IllegalArgumentException likewise. */
    private static void toldOfNothing() {
        TownTwins x = charterFrom(0, 20);
        visit(x, 0, 5);
        String before = Checks.state(x);
        for (int wrong : new int[] {LEAST, -1, 1, 200, MOST}) {
            CHECKS.noSuch("11: event " + wrong, () -> x.told(wrong, 0, 0));
            CHECKS.noSuch("11: event " + wrong + ", k 21", () -> x.told(wrong, 0, 21));
        }
        for (int wrong : new int[] {LEAST, -1, 4, MOST}) {
            CHECKS.noSuch("11: what " + wrong, () -> x.told(0, wrong, 0));
            CHECKS.noSuch("11: what " + wrong + ", k -1", () -> x.told(0, wrong, -1));
        }
        long[] due = {1, 0, 0, 20};
        for (int what = 0; what <= 3; what++) {
            int of = what;
            for (int wrong : new int[] {LEAST, -1, 21, MOST}) {
                CHECKS.refused("11: k " + wrong, () -> x.told(0, of, wrong));
            }
            CHECKS.due("11: what " + what + ", k 0", x.told(0, what, 0), 0);
            CHECKS.due("11: what " + what + ", k TODAY", x.told(0, what, 20), due[what]);
        }
        CHECKS.unchanged("11: a question", x, before);
    }

    /** 12: NoSuchElementException: no such CHARTER, side, DAY. IllegalArgumentException likewise. */
    private static void balanceOfNothing() {
        TownTwins x = charterFrom(0, 20);
        gift(x, 0, 5);
        String before = Checks.state(x);
        for (int wrong : new int[] {LEAST, -1, 1, 24, MOST}) {
            CHECKS.noSuch("12: charter " + wrong, () -> x.balance(wrong, 0, 0, 0));
            CHECKS.noSuch("12: charter " + wrong + ", k 21", () -> x.balance(wrong, 0, 0, 21));
        }
        for (int wrong : new int[] {LEAST, -1, 2, MOST}) {
            CHECKS.noSuch("12: side " + wrong, () -> x.balance(0, wrong, 0, 0));
            CHECKS.noSuch("12: side " + wrong + ", k -1", () -> x.balance(0, wrong, 0, -1));
        }
        for (int wrong : new int[] {LEAST, -1, 3600, MOST}) {
            CHECKS.noSuch("12: day " + wrong, () -> x.balance(0, 0, wrong, 0));
            CHECKS.noSuch("12: day " + wrong + ", k 21", () -> x.balance(0, 0, wrong, 21));
        }
        for (int wrong : new int[] {LEAST, -1, 21, MOST}) {
            CHECKS.refused("12: k " + wrong, () -> x.balance(0, 0, 0, wrong));
        }
        CHECKS.due("12: day 0, k 0", x.balance(0, 0, 0, 0), 0);
        CHECKS.due("12: the last day, k 19", x.balance(0, 0, 3599, 19), 0);
        CHECKS.due("12: the last day, k TODAY", x.balance(0, 0, 3599, 20), 10);
        CHECKS.unchanged("12: a question", x, before);
    }

    /** 10: of one that isn't known then 0, 0, 0, 0, NONE. */
    private static void knownFromTheDayItWasTold() {
        TownTwins x = twoTowns();
        x.days(100);
        x.charter(0, 1, 0);
        visit(x, 0, 50);
        gift(x, 1, 60);
        gift(x, 1, 60);
        gift(x, 1, 60);
        Checks.tell(x, "sleep 1;");
        int[] known = {1, 1, 1, 1, 1};
        int[] unknown = {0, 0, 0, 0, -1};
        for (int what = 0; what <= 4; what++) {
            CHECKS.due("10: known on the day it was told, " + what, x.about(0, what, 70, 100), known[what]);
            CHECKS.due("10: the day ahead it is not known, " + what, x.about(0, what, 70, 99), unknown[what]);
            CHECKS.due("10: nor on day 0, " + what, x.about(0, what, 70, 0), unknown[what]);
        }
        CHECKS.due("12: BALANCE of one that isn't known", x.balance(0, 1, 70, 99), 0);
        CHECKS.due("12: BALANCE of one that is", x.balance(0, 1, 70, 100), 40);
    }

    /** T: ALIVE on a DAY from its own on, as long as no BROKEN of it is on that DAY or ahead. */
    private static void aliveFromItsOwnDay() {
        TownTwins x = charterFrom(30, 60);
        CHECKS.due("T: the day ahead of its own", x.about(0, 0, 29, 60), 0);
        CHECKS.due("T: its own day", x.about(0, 0, 30, 60), 1);
        CHECKS.due("T: the last day", x.about(0, 0, 3599, 60), 1);
        CHECKS.due("T: day 0", x.about(0, 0, 0, 60), 0);
        broken(x, 60);
        CHECKS.due("T: the day ahead of BROKEN", x.about(0, 0, 59, 60), 1);
        CHECKS.due("T: the day of BROKEN", x.about(0, 0, 60, 60), 0);
        CHECKS.due("T: the day behind it", x.about(0, 0, 61, 60), 0);
        CHECKS.due("T: the last day", x.about(0, 0, 3599, 60), 0);
        TownTwins last = charterFrom(3599, 3599);
        CHECKS.due("T: from the last day on", last.about(0, 0, 3599, 3599), 1);
        broken(last, 3599);
        CHECKS.due("T: broken on the last day", last.about(0, 0, 3599, 3599), 0);
    }

    /** T: a BROKEN on its own DAY, or ahead of that, and it is never ALIVE. */
    private static void brokenOnItsOwnDay() {
        for (int day = 29; day <= 31; day++) {
            TownTwins x = charterFrom(30, 60);
            broken(x, day);
            CHECKS.due("T: broken on " + day + ", on 29", x.about(0, 0, 29, 60), 0);
            CHECKS.due("T: broken on " + day + ", on 30", x.about(0, 0, 30, 60), day == 31 ? 1 : 0);
            CHECKS.due("T: broken on " + day + ", on 31", x.about(0, 0, 31, 60), 0);
        }
        TownTwins first = charterFrom(0, 0);
        broken(first, 0);
        CHECKS.due("T: broken on day 0", first.about(0, 0, 0, 0), 0);
    }

    /** T: no BROKEN of it: the first along the days counts, in whichever order they were told. */
    private static void brokenMoreThanOnce() {
        TownTwins x = charterFrom(0, 60);
        x.charter(0, 1, 0);
        int late = broken(x, 50);
        int early = broken(x, 40);
        int later = broken(x, 55);
        CHECKS.due("T: on 39", x.about(0, 0, 39, 60), 1);
        CHECKS.due("T: on 40", x.about(0, 0, 40, 60), 0);
        CHECKS.due("T: another charter on 40", x.about(1, 0, 40, 60), 1);
        x.back(early);
        CHECKS.due("T: on 49, without the first", x.about(0, 0, 49, 60), 1);
        CHECKS.due("T: on 50, without the first", x.about(0, 0, 50, 60), 0);
        x.back(late);
        CHECKS.due("T: on 54, with the last alone", x.about(0, 0, 54, 60), 1);
        CHECKS.due("T: on 55, with the last alone", x.about(0, 0, 55, 60), 0);
        x.back(later);
        CHECKS.due("T: on 55, without any", x.about(0, 0, 55, 60), 1);
    }

    /** T: A VISIT, GIFT COUNTS if its CHARTER is ALIVE on its DAY. */
    private static void countsOnlyWhenAlive() {
        TownTwins x = charterFrom(30, 60);
        broken(x, 50);
        for (int day : new int[] {0, 29, 30, 49, 50, 60}) {
            int due = day == 30 || day == 49 ? 1 : 0;
            int visit = visit(x, 0, day);
            int gift = gift(x, 0, day);
            CHECKS.due("T: a VISIT on " + day, x.told(visit, 0, 60), due);
            CHECKS.due("T: a GIFT on " + day, x.told(gift, 0, 60), due);
            CHECKS.due("11: its COST", x.told(visit, 3, 60), 20 * due);
        }
        CHECKS.due("10: how many COUNT by 29", x.about(0, 3, 29, 60), 0);
        CHECKS.due("10: how many COUNT by 30", x.about(0, 3, 30, 60), 1);
        CHECKS.due("10: how many COUNT by 48", x.about(0, 3, 48, 60), 1);
        CHECKS.due("10: how many COUNT by 49", x.about(0, 3, 49, 60), 2);
        CHECKS.due("10: how many COUNT by the last day", x.about(0, 3, 3599, 60), 2);
    }

    /** T: They go by DAYS, of like ones by number. */
    private static void goByDaysThenNumbers() {
        TownTwins x = charterFrom(0, 60);
        Checks.tell(x, "grant 1 + visits;");
        int[] days = {30, 10, 30, 0, 10, 60, 30};
        int[] place = {3, 1, 4, 0, 2, 6, 5};
        for (int day : days) {
            visit(x, 0, day);
        }
        for (int e = 0; e < days.length; e++) {
            CHECKS.due("T: those ahead of " + e, x.told(e, 1, 60), 1 + place[e]);
        }
    }

    /** T: the last VISIT that COUNTS, ahead of that DAY or on it; 0 without. */
    private static void turnOnTheDay() {
        TownTwins x = charterFrom(0, 60);
        CHECKS.due("T: TURN without a visit", x.about(0, 1, 0, 60), 0);
        visit(x, 0, 20);
        CHECKS.due("T: TURN the day ahead", x.about(0, 1, 19, 60), 0);
        CHECKS.due("T: TURN on its day", x.about(0, 1, 20, 60), 1);
        CHECKS.due("T: TURN the day behind", x.about(0, 1, 21, 60), 1);
        CHECKS.due("T: TURN on the last day", x.about(0, 1, 3599, 60), 1);
        visit(x, 0, 30);
        CHECKS.due("T: one side twice", x.about(0, 1, 30, 60), 1);
        visit(x, 1, 30);
        CHECKS.due("T: the later number on one day", x.about(0, 1, 30, 60), 0);
        CHECKS.due("T: TURN ahead of both", x.about(0, 1, 29, 60), 1);
        visit(x, 0, 10);
        CHECKS.due("T: told last, but not the last by days", x.about(0, 1, 30, 60), 0);
    }

    /** T: the last VISIT that COUNTS, not one that doesn't, and no GIFT. */
    private static void turnOfWhatDoesNotCount() {
        TownTwins x = charterFrom(10, 60);
        x.charter(0, 1, 0);
        visit(x, 0, 9);
        CHECKS.due("T: a visit ahead of the charter", x.about(0, 1, 60, 60), 0);
        x.event(1, 1, 1, 0, 1, 0, 20);
        CHECKS.due("T: a visit of another charter", x.about(0, 1, 60, 60), 0);
        gift(x, 0, 20);
        CHECKS.due("T: a gift", x.about(0, 1, 60, 60), 0);
        int visit = visit(x, 0, 20);
        CHECKS.due("T: a visit", x.about(0, 1, 60, 60), 1);
        x.back(visit);
        CHECKS.due("T: a visit taken back", x.about(0, 1, 60, 60), 0);
        visit(x, 0, 30);
        broken(x, 30);
        CHECKS.due("T: a visit on the day of the break", x.about(0, 1, 60, 60), 0);
    }

    /** T: SLEEPS: without any 'sleep': since above 1080. */
    private static void sleepsAbove1080() {
        TownTwins x = charterFrom(100, 2000);
        CHECKS.due("T: 1079 from its day on", x.about(0, 2, 1179, 2000), 0);
        CHECKS.due("T: 1080 from its day on", x.about(0, 2, 1180, 2000), 0);
        CHECKS.due("T: 1081 from its day on", x.about(0, 2, 1181, 2000), 1);
        visit(x, 0, 1181);
        CHECKS.due("T: a visit on that day wakes it", x.about(0, 2, 1181, 2000), 0);
        CHECKS.due("T: 1080 since the visit", x.about(0, 2, 2261, 2000), 0);
        CHECKS.due("T: 1081 since the visit", x.about(0, 2, 2262, 2000), 1);
        gift(x, 0, 1500);
        CHECKS.due("T: a gift wakes nobody", x.about(0, 2, 2262, 2000), 1);
        Checks.tell(x, "grant 5; pot 1; rate 1;");
        CHECKS.due("T: without any 'sleep' among clauses, 1080", x.about(0, 2, 2261, 2000), 0);
        CHECKS.due("T: without any 'sleep' among clauses, 1081", x.about(0, 2, 2262, 2000), 1);
        Checks.tell(x, "sleep 0;");
        CHECKS.due("T: with a 'sleep' 1080 is nothing", x.about(0, 2, 2262, 2000), 0);
    }

    /** T: A CHARTER SLEEPS on a DAY, if it is ALIVE. */
    private static void sleepsOnlyAlive() {
        TownTwins x = charterFrom(30, 60);
        Checks.tell(x, "sleep 1;");
        broken(x, 50);
        CHECKS.due("T: ahead of its day", x.about(0, 2, 29, 60), 0);
        CHECKS.due("T: on its day", x.about(0, 2, 30, 60), 1);
        CHECKS.due("T: the day ahead of the break", x.about(0, 2, 49, 60), 1);
        CHECKS.due("T: on the day of the break", x.about(0, 2, 50, 60), 0);
        CHECKS.due("T: on the last day", x.about(0, 2, 3599, 60), 0);
    }

    /** T: some 'sleep' isn't 0: the first, the last, one below 0. */
    private static void someSleep() {
        String[] texts = {
            "sleep 0;", "sleep 1;", "sleep 0; sleep 2;", "sleep 2; sleep 0;", "sleep 0 - 1;", "sleep 0; sleep 0;",
            "sleep 5 unless 1;", "sleep 5 unless 0;",
        };
        int[] due = {0, 1, 1, 1, 1, 0, 0, 1};
        TownTwins x = charterFrom(0, 60);
        for (int i = 0; i < texts.length; i++) {
            Checks.tell(x, texts[i]);
            CHECKS.due("T: " + texts[i], x.about(0, 2, 60, 60), due[i]);
        }
    }

    /** T: a side that gave the last three GIFTS that COUNT by a DAY (there being three). 10: (NONE). */
    private static void generousOfThree() {
        for (int side = 0; side <= 1; side++) {
            TownTwins x = charterFrom(0, 60);
            CHECKS.due("T: no gift", x.about(0, 4, 60, 60), -1);
            gift(x, side, 10);
            CHECKS.due("T: one gift", x.about(0, 4, 60, 60), -1);
            gift(x, side, 20);
            CHECKS.due("T: two gifts", x.about(0, 4, 60, 60), -1);
            gift(x, side, 30);
            CHECKS.due("T: three gifts, by 29", x.about(0, 4, 29, 60), -1);
            CHECKS.due("T: three gifts, by 30", x.about(0, 4, 30, 60), side);
            CHECKS.due("T: three gifts, by the last day", x.about(0, 4, 3599, 60), side);
            gift(x, side, 40);
            CHECKS.due("T: four gifts", x.about(0, 4, 60, 60), side);
            gift(x, 1 - side, 50);
            CHECKS.due("T: the last of the other side", x.about(0, 4, 60, 60), -1);
            CHECKS.due("T: by the day ahead of it", x.about(0, 4, 49, 60), side);
            gift(x, side, 51);
            CHECKS.due("T: the last but one of the other side", x.about(0, 4, 60, 60), -1);
            gift(x, side, 52);
            CHECKS.due("T: the last but two of the other side", x.about(0, 4, 60, 60), -1);
            gift(x, side, 53);
            CHECKS.due("T: three once more", x.about(0, 4, 60, 60), side);
        }
    }

    /** T: the last three that COUNT, of that CHARTER, by days and then by numbers. */
    private static void generousCountsOnly() {
        TownTwins x = charterFrom(10, 60);
        x.charter(1, 0, 0);
        gift(x, 0, 20);
        gift(x, 0, 30);
        gift(x, 0, 9);
        CHECKS.due("T: one ahead of the charter does not count", x.about(0, 4, 60, 60), -1);
        x.event(2, 1, 10, 0, 0, 0, 30);
        CHECKS.due("T: one of another charter does not count", x.about(0, 4, 60, 60), -1);
        visit(x, 0, 30);
        CHECKS.due("T: a visit is no gift", x.about(0, 4, 60, 60), -1);
        int third = gift(x, 0, 30);
        CHECKS.due("T: three", x.about(0, 4, 60, 60), 0);
        int other = gift(x, 1, 30);
        CHECKS.due("T: on one day the greater number is the last", x.about(0, 4, 60, 60), -1);
        x.back(other);
        CHECKS.due("T: taken back", x.about(0, 4, 60, 60), 0);
        x.back(third);
        CHECKS.due("T: two are left", x.about(0, 4, 60, 60), -1);
        gift(x, 0, 40);
        broken(x, 40);
        CHECKS.due("T: one on the day of the break does not count", x.about(0, 4, 60, 60), -1);
    }

    /** 11: 0 of what is no VISIT that COUNTS; BROKEN: whether it is known. */
    private static void toldOfWhatIsNoVisit() {
        TownTwins x = charterFrom(10, 60);
        Checks.tell(x, "grant 9; rate 3;");
        int early = visit(x, 0, 9);
        int visit = visit(x, 0, 10);
        int gift = gift(x, 0, 10);
        int broken = broken(x, 50);
        int behind = broken(x, 55);
        int late = visit(x, 0, 50);
        int lateGift = gift(x, 0, 50);
        int back = visit(x, 0, 20);
        x.back(back);
        int[] events = {early, visit, gift, broken, behind, late, lateGift, back};
        int[] counts = {0, 1, 1, 1, 1, 0, 0, 0};
        for (int i = 0; i < events.length; i++) {
            CHECKS.due("11: 0 of event " + i, x.told(events[i], 0, 60), counts[i]);
            CHECKS.due("11: CLAIM of event " + i, x.told(events[i], 1, 60), i == 1 ? 9 : 0);
            CHECKS.due("11: GRANT of event " + i, x.told(events[i], 2, 60), i == 1 ? 9 : 0);
            CHECKS.due("11: COST of event " + i, x.told(events[i], 3, 60), i == 1 ? 3 : 0);
        }
        x.days(1);
        x.back(broken);
        CHECKS.due("11: BROKEN, taken back", x.told(broken, 0, 61), 0);
        CHECKS.due("11: BROKEN, the day ahead", x.told(broken, 0, 60), 1);
        CHECKS.due("11: what counts then", x.told(late, 1, 61), 9);
        CHECKS.due("11: what did not count the day ahead", x.told(late, 1, 60), 0);
    }

    /** T: RULES told TODAY; the one told last on k or ahead counts, for all DAYS. */
    private static void rulesOnKOrAhead() {
        TownTwins x = charterFrom(0, 10);
        visit(x, 0, 0);
        visit(x, 0, 10);
        x.days(10);
        Checks.tell(x, "grant 1; rate 1;");
        Checks.tell(x, "grant 2; rate 2;");
        x.days(10);
        Checks.tell(x, "grant 3; rate 3;");
        int[] due = {0, 0, 2, 2, 3};
        int[] rate = {20, 20, 2, 2, 3};
        int[] k = {10, 19, 20, 29, 30};
        for (int i = 0; i < k.length; i++) {
            for (int visit = 0; visit < 2; visit++) {
                CHECKS.due("T: CLAIM as known on " + k[i], x.told(visit, 1, k[i]), due[i]);
                CHECKS.due("T: COST as known on " + k[i], x.told(visit, 3, k[i]), rate[i]);
            }
        }
    }

    private static void isOfVisits(String value, int... due) {
        TownTwins x = twoTowns();
        x.charter(0, 1, 300);
        x.charter(1, 0, 0);
        x.days(900);
        Checks.tell(x, "grant 5 + " + value + ";");
        x.event(1, 0, 9, 0, 9, 9, 299);
        x.event(1, 1, 9, 0, 9, 9, 310);
        x.event(1, 0, 4, 1, 5, 3, 300);
        x.event(1, 0, 200, 0, 30, 0, 720);
        x.event(1, 0, 1, 1, 1, 1, 720);
        x.event(1, 0, 2, 1, 2, 2, 719);
        for (int e = 0; e < due.length; e++) {
            CHECKS.due("T: " + value + " of visit " + (e + 2), x.told(e + 2, 1, 900), 5 + due[e]);
        }
    }

    /** T: VALUES, of a VISIT; ahead of this one. */
    private static void valuesOfAVisit() {
        isOfVisits("guests", 4, 200, 1, 2);
        isOfVisits("nights", 5, 30, 1, 2);
        isOfVisits("young", 3, 0, 1, 2);
        isOfVisits("people", 45, 30, 45, 45);
        // they go 2, 5, 3, 4: side 1 first (it is 0's turn), then 1 again, then 0, then 1
        isOfVisits("turn", 0, 1, 1, 0);
        isOfVisits("since", 0, 1, 0, 419);
        isOfVisits("age", 0, 420, 420, 419);
        isOfVisits("visits", 0, 2, 3, 1);
        isOfVisits("year", 0, 2, 2, 1);
        isOfVisits("miles", 17, 17, 17, 17);
        isOfVisits("common", 2, 2, 2, 2);
    }

    private static void isForSleep(String value, int day, int due) {
        TownTwins x = twoTowns();
        x.charter(0, 1, 300);
        x.charter(1, 0, 0);
        x.days(900);
        x.event(1, 0, 9, 0, 9, 9, 299);
        x.event(1, 1, 9, 0, 9, 9, 720);
        x.event(1, 0, 4, 1, 5, 3, 400);
        x.event(1, 0, 7, 1, 6, 2, 720);
        x.event(1, 0, 7, 0, 6, 2, 720);
        Checks.tell(x, "grant 7; sleep " + value + " = " + due + ";");
        CHECKS.due("T: a claim is worked out ahead", x.told(4, 1, 900), 7);
        CHECKS.due("T: " + value + " for 'sleep' on " + day + " is " + due, x.about(0, 2, day, 900), 1);
    }

    /** T: For 'sleep' on a DAY: these are 0 (people: of both sides together; turn: the TURN); on that DAY or ahead. */
    private static void valuesForSleep() {
        int[] days = {300, 399, 400, 719, 720, 721, 3599};
        int[] turn = {0, 0, 0, 0, 1, 1, 1};
        int[] since = {0, 99, 0, 319, 0, 1, 2879};
        int[] visits = {0, 0, 1, 1, 3, 3, 3};
        int[] year = {0, 1, 1, 1, 2, 2, 9};
        for (int i = 0; i < days.length; i++) {
            isForSleep("guests", days[i], 0);
            isForSleep("nights", days[i], 0);
            isForSleep("young", days[i], 0);
            isForSleep("people", days[i], 75);
            isForSleep("turn", days[i], turn[i]);
            isForSleep("since", days[i], since[i]);
            isForSleep("age", days[i], days[i] - 300);
            isForSleep("visits", days[i], visits[i]);
            isForSleep("year", days[i], year[i]);
            isForSleep("miles", days[i], 17);
            isForSleep("common", days[i], 2);
        }
    }

    private static long claimBetween(int[] a, int[] b, String grant) {
        TownTwins x = new TownTwins();
        x.town(a[0], a[1], 1, a[2]);
        x.town(b[0], b[1], 1, b[2]);
        x.charter(0, 1, 0);
        visit(x, 0, 0);
        Checks.tell(x, grant);
        return x.told(0, 1, 0);
    }

    /** T: MILES: how far x and y are apart, together; from 0 up to 1998, whichever is greater. */
    private static void miles() {
        int[][] places = {{0, 0, 0, 0, 0}, {5, 5, 5, 5, 0}, {0, 0, 999, 999, 1998}, {999, 999, 0, 0, 1998},
            {0, 999, 999, 0, 1998}, {999, 0, 0, 999, 1998}, {3, 9, 4, 9, 1}, {3, 9, 3, 8, 1}};
        for (int[] p : places) {
            long got = claimBetween(new int[] {p[0], p[1], 1}, new int[] {p[2], p[3], 1}, "grant miles;");
            CHECKS.due("T: miles between " + p[0] + "," + p[1] + " and " + p[2] + "," + p[3], got, p[4]);
        }
    }

    /** T: common: how many TONGUES both have; from 0 up to 8. */
    private static void common() {
        int[][] tongues = {{1, 2, 0}, {85, 170, 0}, {255, 255, 8}, {255, 128, 1}, {129, 255, 2}, {127, 254, 6}};
        for (int[] t : tongues) {
            long got = claimBetween(new int[] {0, 0, t[0]}, new int[] {0, 0, t[1]}, "grant common;");
            CHECKS.due("T: common of " + t[0] + " and " + t[1], got, t[2]);
        }
    }

    /** T: year: DAY by 360, cut down. */
    private static void yearsCutDown() {
        TownTwins x = charterFrom(0, 3599);
        Checks.tell(x, "grant 1 + year;");
        int[] days = {0, 359, 360, 719, 720, 3239, 3240, 3599};
        int[] due = {0, 0, 1, 1, 2, 8, 9, 9};
        for (int i = 0; i < days.length; i++) {
            CHECKS.due("T: year of " + days[i], x.told(visit(x, 0, days[i]), 1, 3599), 1 + due[i]);
        }
    }

    /** T: each 0 to 999,999: what is below, above is taken for these. */
    private static void grantsEach() {
        String[] texts = {
            "grant 0 - 1;", "grant 0;", "grant 1;", "grant 999998;", "grant 999999;", "grant 999999 + 1;",
            "grant 999999 * 999999;", "grant 0 - 999999 * 999999;", "grant 0 - 5; grant 7;", "grant 999999 * 2; grant 1;",
        };
        long[] due = {0, 0, 1, 999998, 999999, 999999, 999999, 0, 7, 1000000};
        for (int i = 0; i < texts.length; i++) {
            long got = claimBetween(new int[] {0, 0, 1}, new int[] {0, 0, 1}, texts[i]);
            CHECKS.due("T: CLAIM by " + texts[i], got, due[i]);
        }
    }

    /** T: the sum of all 'grant', as many as a text can have. */
    private static void claimOfTwelve() {
        TownTwins x = charterFrom(0, 10);
        visit(x, 0, 0);
        Checks.tell(x, "grant 999999;".repeat(12));
        CHECKS.due("T: twelve grants", x.told(0, 1, 10), 12 * 999999);
        CHECKS.due("T: out of a pot of 100,000", x.told(0, 2, 10), 100000);
        Checks.tell(x, "grant 999999;".repeat(11) + "pot 999999;");
        CHECKS.due("T: eleven grants", x.told(0, 1, 10), 11 * 999999);
        CHECKS.due("T: out of the greatest pot", x.told(0, 2, 10), 999999);
    }

    /** T: its CLAIM, if those of all VISITS come to no more than the last 'pot' (100,000 without). */
    private static void potReaches() {
        String[] texts = {
            "grant 50000;", "grant 50001;", "grant 5; pot 10;", "grant 5; pot 11;", "grant 5; pot 9;",
            "pot 9; grant 5; pot 10;", "pot 10; grant 5; pot 9;", "grant 5; pot 1; pot 2; pot 999999;",
        };
        int[][] due = {{50000, 50000}, {50000, 50000}, {5, 5}, {5, 5}, {5, 4}, {5, 5}, {5, 4}, {5, 5}};
        TownTwins x = charterFrom(0, 10);
        visit(x, 0, 0);
        visit(x, 0, 0);
        for (int i = 0; i < texts.length; i++) {
            Checks.tell(x, texts[i]);
            CHECKS.due("T: first GRANT by " + texts[i], x.told(0, 2, 10), due[i][0]);
            CHECKS.due("T: second GRANT by " + texts[i], x.told(1, 2, 10), due[i][1]);
        }
    }

    /** T: all VISITS that COUNT in that YEAR: of all charters, from its first day to its last. */
    private static void potPerYear() {
        TownTwins x = twoTowns();
        x.charter(0, 1, 0);
        x.charter(1, 0, 0);
        x.days(1100);
        Checks.tell(x, "grant 10; pot 10;");
        int[] days = {359, 360, 719, 720};
        for (int i = 0; i < 4; i++) {
            x.event(1, i % 2, 1, 0, 1, 0, days[i]);
        }
        int[] due = {10, 5, 5, 10};
        for (int i = 0; i < 4; i++) {
            CHECKS.due("T: GRANT on " + days[i], x.told(i, 2, 1100), due[i]);
        }
        x.event(1, 0, 1, 0, 1, 0, 0);
        CHECKS.due("T: a year's first day is of it", x.told(0, 2, 1100), 5);
        x.back(4);
        CHECKS.due("T: one taken back takes nothing", x.told(0, 2, 1100), 10);
        x.event(0, 1, 0, 0, 0, 0, 360);
        CHECKS.due("T: one that does not count takes nothing", x.told(2, 2, 1100), 10);
        x.event(2, 0, 1, 0, 0, 0, 719);
        CHECKS.due("T: a gift takes nothing", x.told(2, 2, 1100), 10);
    }

    /** T: a pot of 0, and claims of 0. */
    private static void potOfNothing() {
        TownTwins x = charterFrom(0, 10);
        visit(x, 0, 0);
        visit(x, 0, 5);
        Checks.tell(x, "grant 5; pot 0;");
        CHECKS.due("T: a pot of 0", x.told(0, 2, 10), 0);
        CHECKS.due("T: the claim stays", x.told(0, 1, 10), 5);
        CHECKS.due("12: nobody gets anything", x.balance(0, 0, 10, 10), 20);
        Checks.tell(x, "grant 0; pot 0;");
        CHECKS.due("T: no claims and no pot", x.told(0, 2, 10), 0);
        TownTwins one = charterFrom(0, 10);
        visit(one, 0, 0);
        Checks.tell(one, "grant 1; pot 0;");
        CHECKS.due("T: a pot of 0 and one penny's claim", one.told(0, 2, 10), 0);
        CHECKS.due("T: that claim", one.told(0, 1, 10), 1);
        Checks.tell(one, "grant 1; pot 1;");
        CHECKS.due("T: a pot of one penny reaches", one.told(0, 2, 10), 1);
        Checks.tell(x, "grant 5 * visits; pot 1;");
        CHECKS.due("T: a claim of 0 gets nothing of the pot", x.told(0, 2, 10), 0);
        CHECKS.due("T: the other gets it all", x.told(1, 2, 10), 1);
    }

    private static void shares(String what, int pot, int[] days, int[] guests, int... due) {
        TownTwins x = charterFrom(0, 300);
        Checks.tell(x, "grant guests; pot " + pot + ";");
        for (int i = 0; i < days.length; i++) {
            x.event(1, 0, guests[i], 0, 1, 0, days[i]);
        }
        for (int i = 0; i < days.length; i++) {
            CHECKS.due("T: " + what + ", visit " + i, x.told(i, 2, 300), due[i]);
        }
    }

    /** T: cut down, and those that lost most (of like ones the one that goes first) one more each, until the pot is gone. */
    private static void lostMost() {
        int[] days = {200, 100, 100, 50};
        shares("all can be cut down evenly", 8, days, new int[] {5, 5, 5, 5}, 2, 2, 2, 2);
        shares("one is over: the first by days", 9, days, new int[] {5, 5, 5, 5}, 2, 2, 2, 3);
        shares("two are over: then the lesser number", 10, days, new int[] {5, 5, 5, 5}, 2, 3, 2, 3);
        shares("three are over: all but the last by days", 11, days, new int[] {5, 5, 5, 5}, 2, 3, 3, 3);
        shares("all but one penny", 19, days, new int[] {5, 5, 5, 5}, 4, 5, 5, 5);
        // 7 times 1, 2, 3, 4 by 10: 0 (7 left), 1 (4 left), 2 (1 left), 2 (8 left); two are over
        shares("the greatest remainders", 7, days, new int[] {1, 2, 3, 4}, 1, 1, 2, 3);
        // 10 times 3, 5, 7 by 15: 2 (0 left), 3 (5 left), 4 (10 left); one is over
        shares("who loses most is the last", 10, new int[] {10, 20, 30}, new int[] {3, 5, 7}, 2, 3, 5);
        // 1 times 1, 1, 1, 2 by 5: nothing, and the pot's one penny for the one who lost 2
        shares("a pot of one penny", 1, days, new int[] {1, 1, 1, 2}, 0, 0, 0, 1);
        shares("a pot of one penny for like ones", 1, days, new int[] {1, 1, 1, 1}, 0, 0, 0, 1);
        // 3 times 4, 1, 1 by 6: 2 (0 left), 0 (3 left), 0 (3 left): one is over
        shares("no remainder, no penny", 3, new int[] {10, 20, 30}, new int[] {4, 1, 1}, 2, 1, 0);
    }

    /** T: the pot times it by all of these: longs, far beyond an int. */
    private static void greatShares() {
        TownTwins x = charterFrom(0, 300);
        for (int i = 0; i < 100; i++) {
            visit(x, 0, i);
        }
        Checks.tell(x, "grant 999999;".repeat(11) + "pot 999999;");
        long sum = 0;
        for (int e = 0; e < 100; e++) {
            long grant = x.told(e, 2, 300);
            CHECKS.due("T: GRANT of " + e, grant, e < 99 ? 10000 : 9999);
            sum += grant;
        }
        CHECKS.due("T: the pot is gone", sum, 999999);
    }

    /** T: It is halved: each side bears the half, cut down; the side that travels the odd penny. */
    private static void costHalved() {
        for (int rate = 0; rate <= 3; rate++) {
            for (int side = 0; side <= 1; side++) {
                TownTwins x = charterFrom(0, 10);
                Checks.tell(x, "rate " + rate + ";");
                visit(x, side, 5);
                CHECKS.due("T: COST at rate " + rate, x.told(0, 3, 10), rate);
                CHECKS.due("T: borne by who travels at " + rate, x.balance(0, side, 10, 10), rate - rate / 2);
                CHECKS.due("T: borne by the other at " + rate, x.balance(0, 1 - side, 10, 10), rate / 2);
            }
        }
        TownTwins x = charterFrom(0, 10);
        Checks.tell(x, "rate 1;");
        visit(x, 0, 5);
        visit(x, 0, 6);
        visit(x, 1, 7);
        CHECKS.due("T: each visit is halved by itself: side 0", x.balance(0, 0, 10, 10), 2);
        CHECKS.due("T: each visit is halved by itself: side 1", x.balance(0, 1, 10, 10), 1);
    }

    /** T: guests times nights times the last 'rate' (20 without). */
    private static void rateAtItsEdges() {
        TownTwins x = charterFrom(0, 10);
        x.event(1, 0, 200, 0, 30, 0, 5);
        x.event(1, 0, 1, 0, 1, 0, 5);
        String[] texts = {"", "grant 1;", "rate 0;", "rate 1;", "rate 999999;", "rate 7; rate 9;", "rate 9; pot 7;"};
        long[] rate = {20, 20, 0, 1, 999999, 9, 9};
        for (int i = 0; i < texts.length; i++) {
            Checks.tell(x, texts[i]);
            CHECKS.due("T: the greatest COST by '" + texts[i] + "'", x.told(0, 3, 10), 6000 * rate[i]);
            CHECKS.due("T: the least COST by '" + texts[i] + "'", x.told(1, 3, 10), rate[i]);
        }
        TownTwins most = charterFrom(0, 10);
        Checks.tell(most, "rate 999999;");
        for (int i = 0; i < 200; i++) {
            most.event(1, 0, 200, 0, 30, 0, 5);
        }
        CHECKS.due("12: the greatest BALANCE", most.balance(0, 1, 10, 10), 200L * 3000 * 999999);
    }

    /** T: BALANCE by a DAY (that, too). */
    private static void balanceByADay() {
        TownTwins x = charterFrom(10, 60);
        Checks.tell(x, "rate 10; grant 3;");
        visit(x, 0, 10);
        gift(x, 0, 20);
        gift(x, 1, 60);
        int[] days = {0, 9, 10, 19, 20, 59, 60, 3599};
        int[] first = {0, 0, 2, 2, 12, 12, 12, 12};
        int[] second = {0, 0, 5, 5, 5, 5, 15, 15};
        for (int i = 0; i < days.length; i++) {
            CHECKS.due("12: side 0 by " + days[i], x.balance(0, 0, days[i], 60), first[i]);
            CHECKS.due("12: side 1 by " + days[i], x.balance(0, 1, days[i], 60), second[i]);
        }
    }

    /** T: BALANCE: what it gave, and bore, less GRANTS it got: of what COUNTS; it can be below 0. */
    private static void balanceOfWhatCounts() {
        TownTwins x = charterFrom(10, 60);
        x.charter(1, 0, 0);
        Checks.tell(x, "rate 2; grant 50; pot 60;");
        visit(x, 1, 20);
        CHECKS.due("12: below 0", x.balance(0, 1, 60, 60), 1 - 50);
        CHECKS.due("12: the other side gets no grant", x.balance(0, 0, 60, 60), 1);
        x.event(1, 1, 1, 0, 1, 0, 30);
        CHECKS.due("12: a visit of another charter has its part of the pot", x.balance(0, 1, 60, 60), 1 - 30);
        CHECKS.due("12: its own balance", x.balance(1, 0, 60, 60), 1 - 30);
        CHECKS.due("12: by a day ahead of that visit, the grant is the same", x.balance(0, 1, 20, 60), 1 - 30);
        gift(x, 1, 9);
        visit(x, 1, 9);
        CHECKS.due("12: what is ahead of the charter's day", x.balance(0, 1, 60, 60), 1 - 30);
        int gift = gift(x, 1, 40);
        CHECKS.due("12: a gift", x.balance(0, 1, 60, 60), 11 - 30);
        x.back(gift);
        CHECKS.due("12: a gift taken back", x.balance(0, 1, 60, 60), 1 - 30);
        x.days(1);
        x.event(0, 0, 0, 0, 0, 0, 20);
        CHECKS.due("12: all is broken", x.balance(0, 1, 61, 61), 0);
        CHECKS.due("12: as known the day ahead", x.balance(0, 1, 61, 60), 1 - 30);
    }
}

/**
 * Promises 1 to 6 and 27, with part 1 of the terms: each sentence that names an edge, by itself. The number
 * at the head of a check is the promise's; 'T' stands for the terms.
 */
public final class TownEdgesTest {
    private static final Checks CHECKS = new Checks("TownEdgesTest");
    private static final int LEAST = Integer.MIN_VALUE;
    private static final int MOST = Integer.MAX_VALUE;

    public static void main(String[] args) {
        nothingAtFirst();
        nothingToAskFor();
        townNumbers();
        sixteenTowns();
        charterTowns();
        charterDays();
        twentyFourCharters();
        daysBounds();
        daysNeverWrap();
        eventKindsAndCharters();
        eventDays();
        brokenAsTold();
        visitAsTold();
        giftAsTold();
        whatIsNotAskedOf();
        twoHundredEvents();
        refusedEventsLeaveNoTrace();
        backOnce();
        backOfNoEvent();
        backOnTheDayItWasTold();
        countOfNothingElse();
        countsAtTheirMost();
        CHECKS.end();
    }

    private static TownTwins towns(int many) {
        TownTwins x = new TownTwins();
        for (int i = 0; i < many; i++) {
            x.town(i, i, 1, 1);
        }
        return x;
    }

    private static TownTwins withCharter(int today) {
        TownTwins x = towns(2);
        x.charter(0, 1, 0);
        x.days(today);
        return x;
    }

    /** 1: No TOWNS; TODAY 0. */
    private static void nothingAtFirst() {
        TownTwins x = new TownTwins();
        for (int what = 0; what <= 8; what++) {
            CHECKS.due("1: count(" + what + ")", x.count(what), 0);
        }
        CHECKS.due("1: fault()", x.fault(), -1);
        CHECKS.due("1: TODAY is 0, so 3599 days can go by", x.days(3599), 3599);
        TownTwins other = new TownTwins();
        CHECKS.due("1: objects have nothing in common: TODAY", other.count(0), 0);
        x.town(0, 0, 1, 1);
        CHECKS.due("1: objects have nothing in common: TOWNS", other.count(1), 0);
    }

    /** 1: with no TOWNS there is no CHARTER, EVENT, WISH, friend, PLAN either. */
    private static void nothingToAskFor() {
        TownTwins x = new TownTwins();
        CHECKS.noSuch("1: charter", () -> x.charter(0, 1, 0));
        CHECKS.noSuch("1: event", () -> x.event(0, 0, 0, 0, 0, 0, 0));
        CHECKS.noSuch("1: back", () -> x.back(0) ? 1 : 0);
        CHECKS.noSuch("1: about", () -> x.about(0, 0, 0, 0));
        CHECKS.noSuch("1: told", () -> x.told(0, 0, 0));
        CHECKS.noSuch("1: balance", () -> x.balance(0, 0, 0, 0));
        CHECKS.noSuch("1: liking", () -> x.liking(0, 0));
        CHECKS.noSuch("1: plan", () -> x.plan(0, 1, 1, 0));
        CHECKS.noSuch("1: wish", () -> x.wish(0, 0, 0) ? 1 : 0);
        CHECKS.noSuch("1: friend", () -> x.friend(0));
        CHECKS.refused("1: rules of no tape", () -> x.rules(1));
        CHECKS.due("1: pair of no towns", x.pair(0, 0), 0);
        CHECKS.due("1: pair of town 0", x.pair(1, 0), -1);
        CHECKS.due("1: stables of no towns", x.stables(0, 0), 1);
        CHECKS.due("1: stables of town 0", x.stables(0, 1), -1);
    }

    /** 2: NONE: a number is not as told. T: x, y (0 to 999), people (1 to 9999), TONGUES (bits 0 to 7, at least one). */
    private static void townNumbers() {
        TownTwins x = new TownTwins();
        String before = Checks.state(x);
        for (int wrong : new int[] {LEAST, -1, 1000, MOST}) {
            CHECKS.due("2: x is " + wrong, x.town(wrong, 0, 1, 1), -1);
            CHECKS.due("2: y is " + wrong, x.town(0, wrong, 1, 1), -1);
        }
        for (int wrong : new int[] {LEAST, -1, 0, 10000, MOST}) {
            CHECKS.due("2: people are " + wrong, x.town(0, 0, wrong, 1), -1);
        }
        for (int wrong : new int[] {LEAST, -1, 0, 256, 257, MOST}) {
            CHECKS.due("2: TONGUES are " + wrong, x.town(0, 0, 1, wrong), -1);
        }
        CHECKS.unchanged("2: a town that is not as told", x, before);
        int number = 0;
        for (int right : new int[] {0, 999}) {
            CHECKS.due("2: x is " + right, x.town(right, 5, 5, 5), number++);
            CHECKS.due("2: y is " + right, x.town(5, right, 5, 5), number++);
        }
        for (int right : new int[] {1, 9999}) {
            CHECKS.due("2: people are " + right, x.town(5, 5, right, 5), number++);
        }
        for (int right : new int[] {1, 128, 255}) {
            CHECKS.due("2: TONGUES are " + right, x.town(5, 5, 5, right), number++);
        }
    }

    /** 2: NONE: there are 16. */
    private static void sixteenTowns() {
        TownTwins x = towns(15);
        CHECKS.due("2: the 16th", x.town(0, 0, 1, 1), 15);
        String before = Checks.state(x);
        CHECKS.due("2: the 17th", x.town(0, 0, 1, 1), -1);
        CHECKS.due("2: the 17th, not as told either", x.town(-1, 0, 1, 1), -1);
        CHECKS.unchanged("2: the 17th", x, before);
        CHECKS.due("2: the 16th has a number that can be used", x.charter(15, 0, 0), 0);
        CHECKS.noSuch("2: the 17th has none", () -> x.charter(16, 0, 0));
    }

    /** 3: NONE: both are one. NoSuchElementException: no such TOWN. */
    private static void charterTowns() {
        TownTwins x = towns(3);
        String before = Checks.state(x);
        for (int wrong : new int[] {LEAST, -1, 3, 16, MOST}) {
            CHECKS.noSuch("3: first town " + wrong, () -> x.charter(wrong, 0, 0));
            CHECKS.noSuch("3: second town " + wrong, () -> x.charter(0, wrong, 0));
            CHECKS.noSuch("3: both towns " + wrong, () -> x.charter(wrong, wrong, 0));
            CHECKS.noSuch("3: no day, town " + wrong, () -> x.charter(0, wrong, -1));
        }
        for (int town = 0; town < 3; town++) {
            CHECKS.due("3: both are " + town, x.charter(town, town, 0), -1);
        }
        CHECKS.unchanged("3: a charter that is refused", x, before);
        CHECKS.due("3: first and last", x.charter(0, 2, 0), 0);
        CHECKS.due("3: last and first", x.charter(2, 0, 0), 1);
        CHECKS.due("3: the same two once more", x.charter(2, 0, 0), 2);
    }

    /** 3: NONE: the DAY is not 0 to 3599; it may be one that has not come. */
    private static void charterDays() {
        TownTwins x = towns(2);
        for (int wrong : new int[] {LEAST, -1, 3600, MOST}) {
            CHECKS.due("3: day " + wrong, x.charter(0, 1, wrong), -1);
        }
        CHECKS.due("3: none of these is kept", x.count(2), 0);
        CHECKS.due("3: day 0", x.charter(0, 1, 0), 0);
        CHECKS.due("3: day 3599, TODAY being 0", x.charter(0, 1, 3599), 1);
        CHECKS.due("3: on day 3599 it is alive", x.about(1, 0, 3599, 0), 1);
        CHECKS.due("3: on day 3598 it is not", x.about(1, 0, 3598, 0), 0);
    }

    /** 3: NONE: there are 24. */
    private static void twentyFourCharters() {
        TownTwins x = towns(2);
        for (int i = 0; i < 24; i++) {
            CHECKS.due("3: charter " + i, x.charter(i & 1, 1 - (i & 1), i), i);
        }
        CHECKS.due("3: the 25th", x.charter(0, 1, 0), -1);
        CHECKS.due("3: how many there are", x.count(2), 24);
        CHECKS.due("3: the 24th can be asked of", x.about(23, 0, 23, 0), 1);
        CHECKS.noSuch("3: the 25th can't", () -> x.about(24, 0, 23, 0));
    }

    /** 4: IllegalArgumentException: n is below 0, or it would be above 3599. */
    private static void daysBounds() {
        TownTwins x = new TownTwins();
        CHECKS.due("4: none go by", x.days(0), 0);
        CHECKS.refused("4: n is -1", () -> x.days(-1));
        CHECKS.refused("4: 3600 from 0 on", () -> x.days(3600));
        CHECKS.due("4: 1", x.days(1), 1);
        CHECKS.refused("4: n is -1, TODAY being 1", () -> x.days(-1));
        CHECKS.refused("4: 3599 from 1 on", () -> x.days(3599));
        CHECKS.due("4: a refused call leaves TODAY", x.count(0), 1);
        CHECKS.due("4: 3598 from 1 on", x.days(3598), 3599);
        CHECKS.due("4: none go by on the last day", x.days(0), 3599);
        CHECKS.refused("4: 1 from the last day on", () -> x.days(1));
        CHECKS.due("4: TODAY is the last day", x.count(0), 3599);
    }

    /** 4: a sum of days beyond an int is above 3599 all the same. */
    private static void daysNeverWrap() {
        TownTwins x = new TownTwins();
        x.days(3599);
        for (int wrong : new int[] {LEAST, LEAST + 1, LEAST + 3599, -3599, MOST, MOST - 3598, MOST - 3599}) {
            CHECKS.refused("4: n is " + wrong, () -> x.days(wrong));
        }
        CHECKS.due("4: TODAY", x.count(0), 3599);
    }

    /** 5: NoSuchElementException: no such kind, CHARTER. */
    private static void eventKindsAndCharters() {
        TownTwins x = withCharter(10);
        String before = Checks.state(x);
        for (int wrong : new int[] {LEAST, -1, 3, MOST}) {
            CHECKS.noSuch("5: kind " + wrong, () -> x.event(wrong, 0, 1, 0, 1, 0, 0));
            CHECKS.noSuch("5: kind " + wrong + " and nothing else as told", () -> x.event(wrong, 0, -1, 9, 0, 0, -1));
        }
        for (int kind = 0; kind <= 2; kind++) {
            int number = kind == 0 ? 0 : 1;
            int of = kind;
            for (int wrong : new int[] {LEAST, -1, 1, 24, MOST}) {
                CHECKS.noSuch("5: charter " + wrong, () -> x.event(of, wrong, number, 0, 1, 0, 0));
                CHECKS.noSuch("5: charter " + wrong + " on no day", () -> x.event(of, wrong, number, 0, 1, 0, 11));
            }
        }
        CHECKS.unchanged("5: an event of no kind or charter", x, before);
    }

    /** 5: NONE: the DAY is not as told. T: on a DAY up to TODAY. */
    private static void eventDays() {
        TownTwins x = withCharter(0);
        for (int kind = 0; kind <= 2; kind++) {
            int number = kind == 0 ? 0 : 1;
            for (int wrong : new int[] {LEAST, -1, 1, 3599, MOST}) {
                CHECKS.due("5: kind " + kind + ", day " + wrong, x.event(kind, 0, number, 0, 1, 0, wrong), -1);
            }
        }
        CHECKS.due("5: day 0 is TODAY", x.event(2, 0, 1, 0, 1, 0, 0), 0);
        x.days(3599);
        CHECKS.due("5: day 0, long after", x.event(2, 0, 1, 0, 1, 0, 0), 1);
        CHECKS.due("5: the last day", x.event(2, 0, 1, 0, 1, 0, 3599), 2);
        CHECKS.due("5: the day behind it", x.event(2, 0, 1, 0, 1, 0, 3600), -1);
        TownTwins y = towns(2);
        y.charter(0, 1, 50);
        y.days(60);
        CHECKS.due("5: ahead of the charter's day it can be told", y.event(2, 0, 1, 0, 0, 0, 49), 0);
        CHECKS.due("T: but does not count", y.told(0, 0, 60), 0);
        CHECKS.due("5: on the charter's day", y.event(2, 0, 1, 0, 0, 0, 50), 1);
        CHECKS.due("T: it counts", y.told(1, 0, 60), 1);
    }

    /** 5: NONE: a number is not as told. T: BROKEN has the number 0. */
    private static void brokenAsTold() {
        TownTwins x = withCharter(10);
        for (int wrong : new int[] {LEAST, -1, 1, MOST}) {
            CHECKS.due("5: BROKEN with the number " + wrong, x.event(0, 0, wrong, 0, 0, 0, 5), -1);
        }
        CHECKS.due("5: BROKEN with 0", x.event(0, 0, 0, 0, 0, 0, 5), 0);
        CHECKS.due("5: BROKEN a second time", x.event(0, 0, 0, 0, 0, 0, 5), 1);
    }

    /** 5: T: guests, 1 to 200; the side that travels; nights, 1 to 30; young ones, 0 to guests. */
    private static void visitAsTold() {
        TownTwins x = withCharter(10);
        for (int wrong : new int[] {LEAST, -1, 0, 201, MOST}) {
            CHECKS.due("5: guests " + wrong, x.event(1, 0, wrong, 0, 1, 0, 5), -1);
        }
        for (int wrong : new int[] {LEAST, -1, 2, MOST}) {
            CHECKS.due("5: side " + wrong, x.event(1, 0, 9, wrong, 1, 0, 5), -1);
        }
        for (int wrong : new int[] {LEAST, -1, 0, 31, MOST}) {
            CHECKS.due("5: nights " + wrong, x.event(1, 0, 9, 0, wrong, 0, 5), -1);
        }
        for (int wrong : new int[] {LEAST, -1, 10, 200, MOST}) {
            CHECKS.due("5: young " + wrong + " of 9", x.event(1, 0, 9, 0, 1, wrong, 5), -1);
        }
        CHECKS.due("5: young 2 of 1", x.event(1, 0, 1, 0, 1, 2, 5), -1);
        CHECKS.due("5: young 201 of 200", x.event(1, 0, 200, 0, 1, 201, 5), -1);
        CHECKS.due("5: none of these is kept", x.count(3), 0);
        CHECKS.due("5: the least visit", x.event(1, 0, 1, 0, 1, 0, 5), 0);
        CHECKS.due("5: all are young", x.event(1, 0, 1, 1, 1, 1, 5), 1);
        CHECKS.due("5: the greatest visit", x.event(1, 0, 200, 1, 30, 200, 5), 2);
    }

    /** 5: T: pence, 1 to 99999; the side that gives. */
    private static void giftAsTold() {
        TownTwins x = withCharter(10);
        for (int wrong : new int[] {LEAST, -1, 0, 100000, MOST}) {
            CHECKS.due("5: pence " + wrong, x.event(2, 0, wrong, 0, 0, 0, 5), -1);
        }
        for (int wrong : new int[] {LEAST, -1, 2, MOST}) {
            CHECKS.due("5: side " + wrong, x.event(2, 0, 9, wrong, 0, 0, 5), -1);
        }
        CHECKS.due("5: a penny", x.event(2, 0, 1, 0, 0, 0, 5), 0);
        CHECKS.due("5: 99999 pence", x.event(2, 0, 99999, 1, 0, 0, 5), 1);
        CHECKS.due("5: both are kept", x.balance(0, 0, 5, 10) + x.balance(0, 1, 5, 10), 100000);
    }

    /** 5: side, nights, young: asked of where they count. */
    private static void whatIsNotAskedOf() {
        TownTwins x = withCharter(10);
        int number = 0;
        for (int any : new int[] {LEAST, -1, 0, 1, 2, 31, MOST}) {
            CHECKS.due("5: BROKEN by side " + any, x.event(0, 0, 0, any, any, any, 9), number++);
            CHECKS.due("5: a GIFT of nights, young " + any, x.event(2, 0, 7, 1, any, any, 5), number++);
        }
        CHECKS.due("5: all gifts count", x.balance(0, 1, 10, 10), 49);
    }

    /** 5: NONE: there are 200. */
    private static void twoHundredEvents() {
        TownTwins x = withCharter(10);
        for (int i = 0; i < 199; i++) {
            x.event(2, 0, 1, 0, 0, 0, 10 - i % 11);
        }
        CHECKS.due("5: the 200th", x.event(1, 0, 1, 0, 1, 0, 0), 199);
        String before = Checks.state(x);
        CHECKS.due("5: the 201st, BROKEN", x.event(0, 0, 0, 0, 0, 0, 0), -1);
        CHECKS.due("5: the 201st, a VISIT", x.event(1, 0, 1, 0, 1, 0, 0), -1);
        CHECKS.due("5: the 201st, a GIFT", x.event(2, 0, 1, 0, 0, 0, 0), -1);
        CHECKS.noSuch("5: the 201st of no charter", () -> x.event(2, 1, 1, 0, 0, 0, 0));
        CHECKS.unchanged("5: the 201st", x, before);
        CHECKS.due("5: it broke nothing", x.about(0, 0, 10, 10), 1);
        CHECKS.due("6: the 200th is taken back", x.back(199), true);
        CHECKS.noSuch("6: the 201st can't be", () -> x.back(200) ? 1 : 0);
        CHECKS.due("5: a number is never free again", x.event(2, 0, 1, 0, 0, 0, 0), -1);
    }

    /** 5: what was refused is not there for any question. */
    private static void refusedEventsLeaveNoTrace() {
        TownTwins x = withCharter(10);
        x.event(1, 0, 1, 0, 1, 0, 5);
        x.event(0, 0, 0, 0, 0, 0, 11);
        x.event(0, 0, 1, 0, 0, 0, 3);
        x.event(1, 0, 201, 1, 1, 0, 7);
        x.event(2, 0, 0, 1, 0, 0, 7);
        CHECKS.due("5: still alive", x.about(0, 0, 10, 10), 1);
        CHECKS.due("5: one visit", x.about(0, 3, 10, 10), 1);
        CHECKS.due("5: its turn", x.about(0, 1, 10, 10), 1);
        CHECKS.due("5: half its cost", x.balance(0, 1, 10, 10), 10);
        CHECKS.due("5: the next number", x.event(2, 0, 1, 0, 0, 0, 5), 1);
    }

    /** 6: true. False: it was. */
    private static void backOnce() {
        TownTwins x = withCharter(10);
        x.event(0, 0, 0, 0, 0, 0, 8);
        x.event(1, 0, 1, 0, 1, 0, 7);
        x.event(2, 0, 1, 0, 0, 0, 7);
        x.days(5);
        for (int event = 0; event < 3; event++) {
            CHECKS.due("6: back(" + event + ")", x.back(event), true);
            CHECKS.due("6: back(" + event + ") on the same day", x.back(event), false);
        }
        x.days(5);
        for (int event = 0; event < 3; event++) {
            CHECKS.due("6: back(" + event + ") on another day", x.back(event), false);
            CHECKS.due("6: known the day ahead", x.told(event, 0, 14), 1);
            CHECKS.due("6: not known that day", x.told(event, 0, 15), 0);
            CHECKS.due("6: nor any day behind", x.told(event, 0, 20), 0);
        }
        CHECKS.due("6: it stays an event", x.count(3), 3);
        CHECKS.due("6: what was broken is alive again", x.about(0, 0, 8, 15), 1);
        CHECKS.due("6: as known ahead it was broken", x.about(0, 0, 8, 14), 0);
    }

    /** 6: NoSuchElementException: no such EVENT. */
    private static void backOfNoEvent() {
        TownTwins x = withCharter(10);
        CHECKS.noSuch("6: there are no events", () -> x.back(0) ? 1 : 0);
        x.event(2, 0, 1, 0, 0, 0, 7);
        for (int wrong : new int[] {LEAST, -1, 1, 200, MOST}) {
            CHECKS.noSuch("6: event " + wrong, () -> x.back(wrong) ? 1 : 0);
        }
        CHECKS.due("6: the one that is there stays known", x.told(0, 0, 10), 1);
    }

    /** T: EVENTS told on k or ahead, not TAKEN BACK on k or ahead: on one day both, and it is never known. */
    private static void backOnTheDayItWasTold() {
        TownTwins x = withCharter(10);
        x.event(2, 0, 1, 0, 0, 0, 7);
        x.back(0);
        x.days(1);
        for (int k = 9; k <= 11; k++) {
            CHECKS.due("T: as known on " + k, x.told(0, 0, k), 0);
        }
        x.event(2, 0, 1, 0, 0, 0, 7);
        x.days(1);
        x.back(1);
        CHECKS.due("T: ahead of the day it was told", x.told(1, 0, 10), 0);
        CHECKS.due("T: on that day alone", x.told(1, 0, 11), 1);
        CHECKS.due("T: on the day it was taken back", x.told(1, 0, 12), 0);
        TownTwins last = withCharter(3599);
        last.event(2, 0, 1, 0, 0, 0, 3599);
        CHECKS.due("T: told on the last day", last.told(0, 0, 3599), 1);
        CHECKS.due("T: the day ahead of it", last.told(0, 0, 3598), 0);
        CHECKS.due("6: back on the last day", last.back(0), true);
        CHECKS.due("6: back on the last day again", last.back(0), false);
        CHECKS.due("T: taken back on the last day", last.told(0, 0, 3599), 0);
    }

    /** 27: NoSuchElementException: another what. */
    private static void countOfNothingElse() {
        TownTwins x = new TownTwins();
        for (int wrong : new int[] {LEAST, -1, 9, MOST}) {
            CHECKS.noSuch("27: count(" + wrong + ")", () -> x.count(wrong));
        }
    }

    /** 27: every count at the greatest that it can be. */
    private static void countsAtTheirMost() {
        TownTwins x = towns(20);
        for (int i = 0; i < 30; i++) {
            x.charter(0, 1, 0);
            x.home(1, 1, false, 1);
            x.guest(1, 1, true);
            x.plan(0, 1, 1, 5);
        }
        for (int i = 0; i < 10; i++) {
            x.rules(0);
        }
        for (int i = 0; i < 25; i++) {
            x.feed(0, 0, 0, 0, 0);
        }
        x.days(3599);
        for (int i = 0; i < 210; i++) {
            x.event(2, 0, 1, 0, 0, 0, 0);
        }
        int[] due = {3599, 16, 24, 200, 6, 8, 6, 8, 400};
        for (int what = 0; what < due.length; what++) {
            CHECKS.due("27: count(" + what + ")", x.count(what), due[what]);
        }
        x.empty();
        x.clear();
        x.rules(0);
        int[] then = {3599, 16, 24, 200, 0, 0, 0, 8, 0};
        for (int what = 0; what < then.length; what++) {
            CHECKS.due("27: count(" + what + ") when these have gone", x.count(what), then[what]);
        }
    }
}

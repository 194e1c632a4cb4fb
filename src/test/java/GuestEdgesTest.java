import java.util.Random;

/** Promises 13 to 18, with part 3 of the terms: each sentence that names an edge, by itself. */
public final class GuestEdgesTest {
    private static final Checks CHECKS = new Checks("GuestEdgesTest");
    private static final int LEAST = Integer.MIN_VALUE;
    private static final int MOST = Integer.MAX_VALUE;

    public static void main(String[] args) {
        allGo();
        homeNumbers();
        sixHomes();
        guestNumbers();
        eightGuests();
        likingOfNobody();
        cats();
        noTongueAlike();
        yearsBetween();
        mostGuestsFirst();
        noMoreThanBeds();
        onlyWithALiking();
        thenTheSum();
        thenTheFirstRow();
        noneBehindAll();
        firstOfMany();
        movedAlongAChain();
        greatest();
        nobodyAndNowhere();
        whatIsKept();
        everySmallCase();
        manyLikeOnes();
        CHECKS.end();
    }

    private static void row(String what, TownTwins x, int sum, int... homes) {
        int many = 0;
        for (int home : homes) {
            many += home == -1 ? 0 : 1;
        }
        CHECKS.due("17: " + what + ": lodge()", x.lodge(), many);
        CHECKS.due("18: " + what + ": the sum", x.lodged(-1), sum);
        for (int g = 0; g < homes.length; g++) {
            CHECKS.due("18: " + what + ": lodged(" + g + ")", x.lodged(g), homes[g]);
        }
        CHECKS.noSuch("18: " + what + ": one more", () -> x.lodged(homes.length));
    }

    /** 13: All HOMES, GUESTS go. */
    private static void allGo() {
        TownTwins x = new TownTwins();
        x.empty();
        CHECKS.due("13: where nobody is: homes", x.count(4), 0);
        CHECKS.due("13: where nobody is: guests", x.count(5), 0);
        for (int i = 0; i < 9; i++) {
            x.home(1, 1, false, 1);
            x.guest(1, 1, false);
        }
        x.empty();
        CHECKS.due("13: when full: homes", x.count(4), 0);
        CHECKS.due("13: when full: guests", x.count(5), 0);
        CHECKS.noSuch("13: none is left", () -> x.liking(0, 0));
        CHECKS.due("13: homes from 0 on again", x.home(1, 1, false, 1), 0);
        CHECKS.due("13: guests from 0 on again", x.guest(1, 1, false), 0);
        x.town(0, 0, 1, 1);
        x.town(0, 0, 1, 1);
        x.charter(0, 1, 0);
        x.plan(0, 1, 1, 5);
        x.empty();
        CHECKS.due("13: nothing else goes", x.count(1) + x.count(2) + x.count(6), 4);
    }

    /** 14: NONE: a number is not as told. T: beds (1 to 4), TONGUES (bits; may be 0), age (0 to 99). */
    private static void homeNumbers() {
        TownTwins x = new TownTwins();
        String before = Checks.state(x);
        for (int wrong : new int[] {LEAST, -1, 0, 5, MOST}) {
            CHECKS.due("14: beds " + wrong, x.home(wrong, 1, false, 1), -1);
        }
        for (int wrong : new int[] {LEAST, -1, 256, MOST}) {
            CHECKS.due("14: TONGUES " + wrong, x.home(1, wrong, false, 1), -1);
        }
        for (int wrong : new int[] {LEAST, -1, 100, MOST}) {
            CHECKS.due("14: age " + wrong, x.home(1, 1, false, wrong), -1);
        }
        CHECKS.unchanged("14: a home that is not as told", x, before);
        CHECKS.due("14: the least", x.home(1, 0, false, 0), 0);
        CHECKS.due("14: the greatest", x.home(4, 255, true, 99), 1);
    }

    /** 14: NONE: there are 6. */
    private static void sixHomes() {
        TownTwins x = new TownTwins();
        for (int i = 0; i < 6; i++) {
            CHECKS.due("14: home " + i, x.home(1, 1, false, i), i);
        }
        CHECKS.due("14: the seventh", x.home(1, 1, false, 1), -1);
        CHECKS.due("14: there are 6", x.count(4), 6);
        x.guest(1, 5, false);
        CHECKS.due("16: the sixth can be asked of", x.liking(0, 5), 13);
        CHECKS.noSuch("16: the seventh can't", () -> x.liking(0, 6));
    }

    /** 15: NONE: a number is not as told. T: TONGUES, age (0 to 99). */
    private static void guestNumbers() {
        TownTwins x = new TownTwins();
        String before = Checks.state(x);
        for (int wrong : new int[] {LEAST, -1, 256, MOST}) {
            CHECKS.due("15: TONGUES " + wrong, x.guest(wrong, 1, false), -1);
        }
        for (int wrong : new int[] {LEAST, -1, 100, MOST}) {
            CHECKS.due("15: age " + wrong, x.guest(1, wrong, false), -1);
        }
        CHECKS.unchanged("15: a guest who is not as told", x, before);
        CHECKS.due("15: the least", x.guest(1, 0, false), 0);
        CHECKS.due("15: the greatest", x.guest(255, 99, true), 1);
        CHECKS.due("15: one without TONGUES, as a home may be", x.guest(0, 5, true), 2);
    }

    /** 15: NONE: there are 8. */
    private static void eightGuests() {
        TownTwins x = new TownTwins();
        for (int i = 0; i < 8; i++) {
            CHECKS.due("15: guest " + i, x.guest(1, i, false), i);
        }
        CHECKS.due("15: the ninth", x.guest(1, 1, false), -1);
        CHECKS.due("15: there are 8", x.count(5), 8);
        x.home(1, 1, false, 7);
        CHECKS.due("16: the eighth can be asked of", x.liking(7, 0), 13);
        CHECKS.noSuch("16: the ninth can't", () -> x.liking(8, 0));
    }

    /** 16: NoSuchElementException: no such GUEST, HOME. */
    private static void likingOfNobody() {
        TownTwins x = new TownTwins();
        CHECKS.noSuch("16: nobody is there", () -> x.liking(0, 0));
        x.home(1, 1, false, 1);
        CHECKS.noSuch("16: a home alone", () -> x.liking(0, 0));
        x.empty();
        x.guest(1, 1, false);
        CHECKS.noSuch("16: a guest alone", () -> x.liking(0, 0));
        x.home(1, 1, false, 1);
        for (int wrong : new int[] {LEAST, -1, 1, 8, MOST}) {
            CHECKS.noSuch("16: guest " + wrong, () -> x.liking(wrong, 0));
            CHECKS.noSuch("16: home " + wrong, () -> x.liking(0, wrong));
            CHECKS.noSuch("16: both " + wrong, () -> x.liking(wrong, wrong));
        }
        CHECKS.due("16: those who are there", x.liking(0, 0), 13);
    }

    private static int liking(int homeTongues, boolean cats, int homeAge, int tongues, boolean bears, int age) {
        TownTwins x = new TownTwins();
        x.home(1, homeTongues, cats, homeAge);
        x.guest(tongues, age, bears);
        return x.liking(0, 0);
    }

    /** T: NONE, if there are cats and it bears none. */
    private static void cats() {
        CHECKS.due("T: cats, and it bears none", liking(1, true, 5, 1, false, 5), -1);
        CHECKS.due("T: cats, and it bears them", liking(1, true, 5, 1, true, 5), 13);
        CHECKS.due("T: no cats, and it bears none", liking(1, false, 5, 1, false, 5), 13);
        CHECKS.due("T: no cats, and it would bear them", liking(1, false, 5, 1, true, 5), 13);
        CHECKS.due("T: cats, and no tongue alike", liking(1, true, 5, 2, false, 5), -1);
    }

    /** T: NONE, if they have no TONGUE alike; else 3 for each TONGUE alike. */
    private static void noTongueAlike() {
        int[][] tongues = {{0, 0, 0}, {0, 255, 0}, {255, 0, 0}, {85, 170, 0}, {1, 1, 1}, {128, 255, 1}, {129, 195, 2},
            {127, 255, 7}, {255, 255, 8}};
        for (int[] t : tongues) {
            int due = t[2] == 0 ? -1 : 3 * t[2];
            CHECKS.due("T: TONGUES " + t[0] + " and " + t[1], liking(t[0], false, 0, t[1], true, 99), due);
        }
    }

    /** T: and 10 less the years between both ages (0, if these are more). */
    private static void yearsBetween() {
        int[] years = {0, 1, 9, 10, 11, 99};
        int[] due = {10, 9, 1, 0, 0, 0};
        for (int i = 0; i < years.length; i++) {
            CHECKS.due("T: older by " + years[i], liking(1, false, 0, 1, false, years[i]), 3 + due[i]);
            CHECKS.due("T: younger by " + years[i], liking(1, false, years[i], 1, false, 0), 3 + due[i]);
        }
        CHECKS.due("T: the greatest", liking(255, true, 99, 255, true, 99), 34);
    }

    /** T: THE BEST: most GUESTS in HOMES, ahead of any sum. */
    private static void mostGuestsFirst() {
        TownTwins x = new TownTwins();
        x.home(1, 255, false, 50);
        x.home(1, 1, false, 0);
        x.guest(255, 50, false);
        x.guest(128, 0, false);
        row("34 is given up for 3 and 3", x, 6, 1, 0);
        x.empty();
        x.home(1, 255, false, 50);
        x.home(1, 1, false, 0);
        x.guest(255, 50, false);
        x.guest(254, 50, false);
        row("two for 34", x, 3 + 31, 1, 0);
    }

    /** T: no more than beds. */
    private static void noMoreThanBeds() {
        for (int beds = 1; beds <= 4; beds++) {
            TownTwins x = new TownTwins();
            x.home(beds, 1, false, 0);
            int[] due = new int[8];
            for (int g = 0; g < 8; g++) {
                x.guest(1, 0, false);
                due[g] = g < beds ? 0 : -1;
            }
            row(beds + " beds", x, 13 * beds, due);
        }
        TownTwins x = new TownTwins();
        int[] due = {0, 0, 1, 1, 1, 2, 2, 2};
        x.home(2, 1, false, 0);
        x.home(3, 1, false, 0);
        x.home(4, 1, false, 0);
        for (int g = 0; g < 8; g++) {
            x.guest(1, 0, false);
        }
        row("more beds than guests", x, 8 * 13, due);
    }

    /** T: only with a LIKING. */
    private static void onlyWithALiking() {
        TownTwins x = new TownTwins();
        x.home(4, 1, true, 0);
        x.home(4, 2, false, 0);
        x.home(4, 0, false, 0);
        x.guest(1, 0, false);
        x.guest(1, 0, true);
        x.guest(2, 0, false);
        x.guest(4, 0, true);
        x.guest(0, 0, true);
        row("cats and tongues", x, 26, -1, 0, 1, -1, -1);
    }

    /** T: of like ones the greatest sum of LIKINGS. */
    private static void thenTheSum() {
        TownTwins x = new TownTwins();
        x.home(1, 1, false, 10);
        x.guest(1, 0, false);
        x.guest(1, 9, false);
        x.guest(1, 8, false);
        row("the one bed for the dearest", x, 12, -1, 0, -1);
        x.empty();
        x.home(1, 3, false, 10);
        x.home(1, 1, false, 10);
        x.guest(1, 10, false);
        x.guest(3, 10, false);
        row("one point of the sum ahead of the row", x, 13 + 16, 1, 0);
        x.empty();
        x.home(1, 1, false, 10);
        x.home(1, 1, false, 11);
        x.guest(1, 11, false);
        x.guest(1, 10, false);
        row("the sum of both, ahead of the row", x, 26, 1, 0);
    }

    /** T: of like ones the first as a row that tells for each GUEST the HOME. */
    private static void thenTheFirstRow() {
        TownTwins x = new TownTwins();
        for (int h = 0; h < 6; h++) {
            x.home(1, 1, false, 0);
        }
        for (int g = 0; g < 6; g++) {
            x.guest(1, 0, false);
        }
        row("all alike", x, 6 * 13, 0, 1, 2, 3, 4, 5);
        x.empty();
        for (int h = 0; h < 6; h++) {
            x.home(1, h == 0 ? 3 : 1, false, 0);
        }
        x.guest(1, 0, false);
        x.guest(1, 0, false);
        x.guest(2, 0, false);
        x.guest(1, 0, false);
        row("the first is asked for by another", x, 4 * 13, 1, 2, 0, 3);
        x.empty();
        x.home(1, 6, false, 0);
        x.home(1, 3, false, 0);
        x.home(1, 5, false, 0);
        x.guest(1, 0, false);
        x.guest(2, 0, false);
        x.guest(4, 0, false);
        // 1 0 2 and 2 1 0 have one sum
        row("the first of two rings", x, 39, 1, 0, 2);
    }

    /** T: none behind all: a guest without a home comes behind every home in the row. */
    private static void noneBehindAll() {
        TownTwins x = new TownTwins();
        x.home(1, 1, false, 0);
        x.guest(1, 0, false);
        x.guest(1, 0, false);
        row("the first has it", x, 13, 0, -1);
        x.empty();
        for (int h = 0; h < 6; h++) {
            x.home(1, h < 5 ? 2 : 1, false, 0);
        }
        x.guest(1, 0, false);
        x.guest(1, 0, false);
        row("even the last home is ahead of none", x, 13, 5, -1);
        x.empty();
        x.home(1, 1, false, 0);
        x.home(1, 1, false, 0);
        x.guest(1, 10, false);
        x.guest(1, 0, false);
        x.guest(1, 0, false);
        row("but the sum is ahead of the row", x, 26, -1, 0, 1);
    }

    private static TownTwins oneBedEach(int[] homes, int[] guests) {
        TownTwins x = new TownTwins();
        for (int tongues : homes) {
            x.home(1, tongues, false, 0);
        }
        for (int tongues : guests) {
            x.guest(tongues, 0, false);
        }
        return x;
    }

    /** T: the first as a row: an earlier guest's home weighs more than all that come behind, none included. */
    private static void firstOfMany() {
        // also to be had for the same sum: 1 0 and none else
        row("0, none and 1", oneBedEach(new int[] {2, 1}, new int[] {3, 6, 3, 1, 4, 4, 2, 2}), 26,
                0, -1, 1, -1, -1, -1, -1, -1);
        // 1 0 2 none none 3
        row("0 ahead of two without", oneBedEach(new int[] {5, 13, 9, 11}, new int[] {12, 4, 3, 6, 1, 15}), 61,
                0, -1, 3, -1, 2, 1);
        // 1 0 none 4 2 3 none 5
        row("0 ahead of two without, of eight",
                oneBedEach(new int[] {26, 23, 4, 21, 9, 11}, new int[] {22, 18, 16, 13, 20, 23, 4, 11}), 102,
                0, -1, -1, 4, 3, 1, 2, 5);
    }

    /** T: most GUESTS: one more home is found only when all others move on. */
    private static void movedAlongAChain() {
        TownTwins x = new TownTwins();
        int[] homes = {1, 3, 6, 12, 24, 48};
        for (int tongues : homes) {
            x.home(1, tongues, false, 0);
        }
        for (int g = 0; g < 5; g++) {
            x.guest(1 << g, 0, false);
        }
        row("each in the first of its two", x, 65, 0, 1, 2, 3, 4);
        x.guest(1, 0, false);
        row("a sixth moves all the others on", x, 78, 0, 2, 3, 4, 5, 1);
        x.guest(1, 0, false);
        row("a seventh finds none", x, 78, 0, 2, 3, 4, 5, 1, -1);
        x.guest(32, 0, false);
        row("an eighth takes the place of the fifth's chain", x, 78, 0, 1, 2, 3, 4, -1, -1, 5);
    }

    /** T: at most 6 HOMES of 4 beds and 8 GUESTS, all at their greatest. */
    private static void greatest() {
        TownTwins x = new TownTwins();
        for (int h = 0; h < 6; h++) {
            x.home(4, 255, true, 99);
        }
        for (int g = 0; g < 8; g++) {
            x.guest(255, 99, true);
        }
        row("eight of eight", x, 8 * 34, 0, 0, 0, 0, 1, 1, 1, 1);
        x.empty();
        for (int h = 0; h < 6; h++) {
            x.home(4, 255, true, 99);
        }
        for (int g = 0; g < 8; g++) {
            x.guest(255, 99, false);
        }
        row("24 beds, and none of eight bears cats", x, 0, -1, -1, -1, -1, -1, -1, -1, -1);
    }

    /** 17: how many GUESTS are in HOMES: none, where there is nobody, or no home. */
    private static void nobodyAndNowhere() {
        TownTwins x = new TownTwins();
        row("neither", x, 0);
        x.home(4, 255, false, 0);
        row("homes alone", x, 0);
        x.empty();
        for (int g = 0; g < 8; g++) {
            x.guest(255, 0, true);
        }
        row("guests alone", x, 0, -1, -1, -1, -1, -1, -1, -1, -1);
    }

    /** 18: by what is kept (NONE); guest NONE: the sum. NoSuchElementException: nothing is kept, no such GUEST in it. */
    private static void whatIsKept() {
        TownTwins x = new TownTwins();
        x.home(1, 1, false, 0);
        x.guest(1, 0, false);
        for (int guest : new int[] {LEAST, -2, -1, 0, 1, 8, MOST}) {
            CHECKS.noSuch("18: nothing is kept, guest " + guest, () -> x.lodged(guest));
        }
        x.guest(1, 0, false);
        CHECKS.due("17: lodge()", x.lodge(), 1);
        for (int guest : new int[] {LEAST, -2, 2, 8, MOST}) {
            CHECKS.noSuch("18: no such guest, " + guest, () -> x.lodged(guest));
        }
        x.guest(1, 0, false);
        x.home(1, 1, false, 0);
        CHECKS.noSuch("18: one who came later", () -> x.lodged(2));
        CHECKS.due("18: without a home", x.lodged(1), -1);
        CHECKS.due("18: the sum as it was", x.lodged(-1), 13);
        x.empty();
        CHECKS.due("18: what is kept stays when all go", x.lodged(0), 0);
        CHECKS.due("18: and its NONE", x.lodged(1), -1);
        CHECKS.due("17: with nobody", x.lodge(), 0);
        CHECKS.noSuch("18: then another is kept", () -> x.lodged(0));
        CHECKS.due("18: with the sum 0", x.lodged(-1), 0);
    }

    /** T: THE BEST, for every case of three homes and four guests with two tongues, likes among them. */
    private static void everySmallCase() {
        for (int homes = 0; homes < 64; homes++) {
            for (int guests = 0; guests < 256; guests++) {
                TownTwins x = new TownTwins();
                Model due = new Model();
                for (int h = 0; h < 3; h++) {
                    int beds = h == 1 ? 2 : 1;
                    x.home(beds, homes >> 2 * h & 3, false, h);
                    due.home(beds, homes >> 2 * h & 3, false, h);
                }
                for (int g = 0; g < 4; g++) {
                    x.guest(guests >> 2 * g & 3, g & 1, false);
                    due.guest(guests >> 2 * g & 3, g & 1, false);
                }
                String what = "17: homes " + homes + ", guests " + guests;
                CHECKS.due(what, x.lodge(), due.lodge());
                for (int g = -1; g < 4; g++) {
                    CHECKS.due(what + ", guest " + g, x.lodged(g), due.lodged(g));
                }
            }
        }
    }

    /** T: THE BEST, for homes of one bed and guests of three tongues and two ages: most have many like ones. */
    private static void manyLikeOnes() {
        Random random = new Random(17);
        for (int n = 0; n < 20000; n++) {
            TownTwins x = new TownTwins();
            Model due = new Model();
            for (int h = 2 + n % 5; h > 0; h--) {
                int tongues = 1 + random.nextInt(7);
                x.home(1, tongues, false, h % 2);
                due.home(1, tongues, false, h % 2);
            }
            for (int g = 0; g < 8; g++) {
                int tongues = 1 + random.nextInt(7);
                x.guest(tongues, g % 2, false);
                due.guest(tongues, g % 2, false);
            }
            CHECKS.due("17: like ones " + n, x.lodge(), due.lodge());
            for (int g = -1; g < 8; g++) {
                CHECKS.due("18: like ones " + n + ", guest " + g, x.lodged(g), due.lodged(g));
            }
        }
    }
}

/** Promises 13 to 18: homes, guests, likings and the best that can be had. */
public final class LodgingTest {
    private static final Checks CHECKS = new Checks("LodgingTest");

    public static void main(String[] args) {
        homes();
        guests();
        likings();
        best();
        likeOnes();
        kept();
        greatest();
        CHECKS.end();
    }

    private static void homes() {
        TownTwins x = new TownTwins();
        int[][] wrong = {{0, 1, 5}, {5, 1, 5}, {1, -1, 5}, {1, 256, 5}, {1, 1, -1}, {1, 1, 100}};
        for (int[] h : wrong) {
            CHECKS.due("home not as told", x.home(h[0], h[1], false, h[2]), -1);
        }
        CHECKS.due("least home", x.home(1, 0, false, 0), 0);
        CHECKS.due("greatest home", x.home(4, 255, true, 99), 1);
        for (int i = 2; i < 6; i++) {
            CHECKS.due("home " + i, x.home(2, 3, true, 4), i);
        }
        CHECKS.due("the seventh home", x.home(2, 3, true, 4), -1);
        CHECKS.due("count(4)", x.count(4), 6);
        x.guest(1, 1, true);
        x.empty();
        CHECKS.due("count(4) after empty", x.count(4), 0);
        CHECKS.due("count(5) after empty", x.count(5), 0);
        CHECKS.due("homes start again", x.home(2, 3, true, 4), 0);
        CHECKS.due("guests start again", x.guest(2, 3, true), 0);
    }

    private static void guests() {
        TownTwins x = new TownTwins();
        int[][] wrong = {{-1, 5}, {256, 5}, {1, -1}, {1, 100}};
        for (int[] g : wrong) {
            CHECKS.due("guest not as told", x.guest(g[0], g[1], false), -1);
        }
        CHECKS.due("least guest", x.guest(1, 0, false), 0);
        CHECKS.due("greatest guest", x.guest(255, 99, true), 1);
        for (int i = 2; i < 8; i++) {
            CHECKS.due("guest " + i, x.guest(2, 3, true), i);
        }
        CHECKS.due("the ninth guest", x.guest(2, 3, true), -1);
        CHECKS.due("count(5)", x.count(5), 8);
        x.empty();
        CHECKS.due("a guest without tongues", x.guest(0, 5, true), 0);
    }

    private static void likings() {
        TownTwins x = new TownTwins();
        x.home(1, 7, true, 10);
        x.home(1, 255, false, 50);
        x.home(1, 0, false, 10);
        x.guest(3, 10, true);
        x.guest(3, 10, false);
        x.guest(255, 60, true);
        x.guest(8, 10, true);
        CHECKS.due("two tongues, one age", x.liking(0, 0), 16);
        CHECKS.due("cats", x.liking(1, 0), -1);
        CHECKS.due("far in age", x.liking(1, 1), 6);
        CHECKS.due("ten years between", x.liking(2, 1), 24);
        CHECKS.due("no tongue alike", x.liking(3, 0), -1);
        CHECKS.due("no tongue at all", x.liking(0, 2), -1);
        CHECKS.noSuch("guest 4", () -> x.liking(4, 0));
        CHECKS.noSuch("home 3", () -> x.liking(0, 3));
        CHECKS.noSuch("guest -1", () -> x.liking(-1, 0));
        CHECKS.noSuch("home -1", () -> x.liking(0, -1));
        x.empty();
        CHECKS.noSuch("guest 0 after empty", () -> x.liking(0, 0));
    }

    private static void row(String what, TownTwins x, int many, int sum, int... homes) {
        CHECKS.due(what + ": lodge()", x.lodge(), many);
        CHECKS.due(what + ": the sum", x.lodged(-1), sum);
        for (int g = 0; g < homes.length; g++) {
            CHECKS.due(what + ": lodged(" + g + ")", x.lodged(g), homes[g]);
        }
        CHECKS.noSuch(what + ": no such guest", () -> x.lodged(homes.length));
    }

    private static void best() {
        TownTwins x = new TownTwins();
        x.home(1, 3, false, 10);
        x.home(1, 1, false, 90);
        x.guest(3, 10, false);
        x.guest(2, 90, false);
        // 0 would like home 0 for 16, but then 1 has none: more guests come first
        row("more guests ahead of likings", x, 2, 3 + 3, 1, 0);
        x.empty();
        x.home(2, 1, false, 10);
        x.home(2, 1, false, 20);
        x.guest(1, 20, false);
        x.guest(1, 10, false);
        x.guest(1, 20, false);
        x.guest(1, 11, false);
        row("the greatest sum", x, 4, 13 + 13 + 13 + 12, 1, 0, 1, 0);
    }

    private static void likeOnes() {
        TownTwins x = new TownTwins();
        x.home(1, 1, false, 10);
        x.home(1, 1, false, 10);
        x.guest(1, 10, false);
        x.guest(1, 10, false);
        x.guest(1, 10, false);
        row("the first row, none behind all", x, 2, 26, 0, 1, -1);
        x.empty();
        x.home(1, 1, false, 10);
        x.home(2, 1, false, 10);
        x.guest(1, 10, false);
        x.guest(1, 10, false);
        x.guest(1, 10, false);
        row("no more than beds", x, 3, 39, 0, 1, 1);
        x.empty();
        x.home(4, 1, true, 10);
        x.guest(1, 10, false);
        row("nobody without a liking", x, 0, 0, -1);
        x.empty();
        x.home(1, 1, false, 10);
        row("no guest", x, 0, 0);
        x.empty();
        x.guest(1, 10, false);
        row("no home", x, 0, 0, -1);
    }

    private static void kept() {
        TownTwins x = new TownTwins();
        x.guest(1, 10, false);
        CHECKS.noSuch("nothing is kept", () -> x.lodged(0));
        CHECKS.noSuch("not even a sum", () -> x.lodged(-1));
        x.home(1, 1, false, 10);
        x.lodge();
        x.guest(1, 10, false);
        CHECKS.noSuch("a guest who came later", () -> x.lodged(1));
        CHECKS.noSuch("guest -2", () -> x.lodged(-2));
        x.empty();
        CHECKS.due("what is kept stays", x.lodged(0), 0);
        CHECKS.due("its sum too", x.lodged(-1), 13);
        x.lodge();
        CHECKS.noSuch("another is kept then", () -> x.lodged(0));
        CHECKS.due("its sum", x.lodged(-1), 0);
    }

    private static void greatest() {
        TownTwins x = new TownTwins();
        for (int h = 0; h < 6; h++) {
            x.home(4, 255, true, 0);
        }
        for (int g = 0; g < 8; g++) {
            x.guest(255, 0, true);
        }
        row("all at their greatest", x, 8, 8 * 34, 0, 0, 0, 0, 1, 1, 1, 1);
    }
}

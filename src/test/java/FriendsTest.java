/** Promises 23 to 26: wishes, pairings that last, and how many there are. */
public final class FriendsTest {
    private static final Checks CHECKS = new Checks("FriendsTest");

    public static void main(String[] args) {
        wishes();
        sets();
        pairs();
        onlyBoth();
        manyStable();
        kept();
        CHECKS.end();
    }

    private static TownTwins towns(int many) {
        TownTwins x = new TownTwins();
        for (int i = 0; i < many; i++) {
            x.town(0, 0, 1, 1);
        }
        return x;
    }

    private static int row(int... towns) {
        int bits = 0;
        for (int i = towns.length - 1; i >= 0; i--) {
            bits = bits << 4 | towns[i];
        }
        return bits;
    }

    private static boolean wish(TownTwins x, int town, int... towns) {
        return x.wish(town, towns.length, row(towns));
    }

    private static void wishes() {
        TownTwins x = towns(8);
        CHECKS.noSuch("wish of town 8", () -> wish(x, 8, 1) ? 1 : 0);
        CHECKS.noSuch("wish of town -1", () -> wish(x, -1, 1) ? 1 : 0);
        CHECKS.noSuch("wish of town 8 of 9", () -> x.wish(8, 9, 1) ? 1 : 0);
        CHECKS.due("a wish of -1", x.wish(0, -1, 1), false);
        CHECKS.due("a wish of 7", x.wish(0, 7, 0x7654321), false);
        CHECKS.due("a wish of 6", x.wish(0, 6, 0x654321), true);
        CHECKS.due("a wish of none", x.wish(0, 0, 0), true);
        CHECKS.due("itself", wish(x, 3, 1, 3), false);
        CHECKS.due("one twice", wish(x, 3, 1, 2, 1), false);
        CHECKS.due("no such town", wish(x, 3, 8), false);
        CHECKS.due("bits behind the row", x.wish(3, 1, row(1, 1, 15)), true);
        CHECKS.due("the least town of 16", towns(16).wish(15, 1, 0), true);
        TownTwins y = towns(4);
        wish(y, 0, 1);
        wish(y, 1, 0);
        CHECKS.due("a wrong wish", wish(y, 0, 0), false);
        CHECKS.due("changes nothing", y.pair(1, 2), 1);
        CHECKS.due("another takes its place", wish(y, 0, 2), true);
        CHECKS.due("and the one ahead is gone", y.pair(1, 2), 0);
    }

    private static void sets() {
        TownTwins x = towns(14);
        wish(x, 0, 1);
        wish(x, 1, 0);
        x.pair(1, 2);
        int[][] wrong = {
            {1 << 14, 1}, {1, 1 << 14}, {-1, 0}, {Integer.MIN_VALUE, 0}, {0, Integer.MIN_VALUE}, {127, 128},
            {128, 127}, {3, 2}, {1 << 31 - 1, 0},
        };
        for (int[] s : wrong) {
            CHECKS.due("pair(" + s[0] + ", " + s[1] + ")", x.pair(s[0], s[1]), -1);
            CHECKS.due("stables(" + s[0] + ", " + s[1] + ")", x.stables(s[0], s[1]), -1);
            CHECKS.due("what was kept stays", x.friend(0), 1);
        }
        CHECKS.due("six of each", x.pair(63, 63 << 6), 0);
        CHECKS.due("friend then", x.friend(0), -1);
        CHECKS.due("stables of six each", x.stables(63, 63 << 6), 1);
        CHECKS.due("stables of none", x.stables(0, 0), 1);
        CHECKS.due("pairs of none", x.pair(0, 0), 0);
    }

    private static void pairs() {
        TownTwins x = towns(6);
        wish(x, 0, 3, 4, 5);
        wish(x, 1, 3, 4, 5);
        wish(x, 2, 3, 4, 5);
        wish(x, 3, 2, 1, 0);
        wish(x, 4, 2, 1, 0);
        wish(x, 5, 2, 1, 0);
        CHECKS.due("all want the same", x.pair(7, 56), 3);
        CHECKS.due("friend(0)", x.friend(0), 5);
        CHECKS.due("friend(1)", x.friend(1), 4);
        CHECKS.due("friend(2)", x.friend(2), 3);
        CHECKS.due("friend(3)", x.friend(3), 2);
        CHECKS.due("friend(4)", x.friend(4), 1);
        CHECKS.due("friend(5)", x.friend(5), 0);
        CHECKS.due("one way alone", x.stables(7, 56), 1);
        CHECKS.due("two of the first", x.pair(3, 56), 2);
        CHECKS.due("friend(1) of two", x.friend(1), 3);
        CHECKS.due("friend(0) of two", x.friend(0), 4);
        CHECKS.due("friend(2) of two", x.friend(2), -1);
    }

    private static void onlyBoth() {
        TownTwins x = towns(4);
        wish(x, 0, 2, 3);
        wish(x, 1, 2);
        wish(x, 2, 1);
        wish(x, 3, 0, 1);
        CHECKS.due("only where each is wished", x.pair(3, 12), 2);
        CHECKS.due("friend(0)", x.friend(0), 3);
        CHECKS.due("friend(1)", x.friend(1), 2);
        CHECKS.due("stables", x.stables(3, 12), 1);
        CHECKS.due("a set of one", x.pair(1, 4), 0);
        CHECKS.due("nobody is a way too", x.stables(1, 4), 1);
        CHECKS.due("within a set nobody is paired", x.pair(9, 6), 0);
        CHECKS.due("friend(0) then", x.friend(0), -1);
    }

    private static void manyStable() {
        TownTwins x = towns(12);
        // three rings of two and two: each can be settled in two ways
        for (int ring = 0; ring < 3; ring++) {
            int a = 2 * ring;
            int b = 6 + 2 * ring;
            wish(x, a, b, b + 1);
            wish(x, a + 1, b + 1, b);
            wish(x, b, a + 1, a);
            wish(x, b + 1, a, a + 1);
        }
        CHECKS.due("eight ways", x.stables(63, 63 << 6), 8);
        CHECKS.due("six pairs", x.pair(63, 63 << 6), 6);
        CHECKS.due("the first have the dearest", x.friend(0), 6);
        CHECKS.due("by the other side", x.pair(63 << 6, 63), 6);
        CHECKS.due("the other side has the dearest", x.friend(0), 7);
        CHECKS.due("as many ways", x.stables(63 << 6, 63), 8);
    }

    private static void kept() {
        TownTwins x = towns(2);
        CHECKS.due("nothing is kept", x.friend(0), -1);
        CHECKS.noSuch("friend(2)", () -> x.friend(2));
        CHECKS.noSuch("friend(-1)", () -> x.friend(-1));
        wish(x, 0, 1);
        wish(x, 1, 0);
        CHECKS.due("pair", x.pair(1, 2), 1);
        CHECKS.due("stables keeps nothing", x.stables(2, 0), 1);
        x.town(0, 0, 1, 1);
        CHECKS.due("a town made later", x.friend(2), -1);
        wish(x, 0);
        CHECKS.due("what is kept stays", x.friend(0), 1);
        CHECKS.due("and for the other", x.friend(1), 0);
    }
}

/** Promises 23 to 26, with part 5 of the terms: each sentence that names an edge, by itself. */
public final class FriendEdgesTest {
    private static final Checks CHECKS = new Checks("FriendEdgesTest");
    private static final int LEAST = Integer.MIN_VALUE;
    private static final int MOST = Integer.MAX_VALUE;

    public static void main(String[] args) {
        wishOfNoTown();
        wishNumbers();
        wishTowns();
        bitsBehind();
        refusedWishes();
        wishTakesThePlace();
        bitsOfNoTown();
        moreThanSix();
        oneInBoth();
        emptySets();
        onlyWhereEachIsWished();
        withoutAWish();
        withinASet();
        stableNotJustMany();
        byTheFirst();
        askedDownTheRow();
        someStayAlone();
        sixOfEach();
        refusedAgainAndAgain();
        whatIsKept();
        stablesKeepNothing();
        everyCaseOfTwo();
        manyCasesOfThree();
        CHECKS.end();
    }

    private static TownTwins towns(int many) {
        TownTwins x = new TownTwins();
        for (int i = 0; i < many; i++) {
            x.town(0, 0, 1, 1);
        }
        return x;
    }

    private static int row(int... towns) {
        int bits = 0;
        for (int i = towns.length - 1; i >= 0; i--) {
            bits = bits << 4 | towns[i];
        }
        return bits;
    }

    private static boolean wish(TownTwins x, int town, int... towns) {
        return x.wish(town, towns.length, row(towns));
    }

    private static void friends(String what, TownTwins x, int... due) {
        for (int town = 0; town < due.length; town++) {
            CHECKS.due("25: " + what + ": friend(" + town + ")", x.friend(town), due[town]);
        }
    }

    /** 23: NoSuchElementException: no such TOWN (as everywhere). 25: likewise. */
    private static void wishOfNoTown() {
        TownTwins x = towns(3);
        for (int wrong : new int[] {LEAST, -1, 3, 16, MOST}) {
            CHECKS.noSuch("23: town " + wrong, () -> x.wish(wrong, 1, 0) ? 1 : 0);
            CHECKS.noSuch("23: town " + wrong + ", nothing else as told", () -> x.wish(wrong, 7, 15) ? 1 : 0);
            CHECKS.noSuch("25: town " + wrong, () -> x.friend(wrong));
        }
        CHECKS.due("23: the last town", x.wish(2, 1, 0), true);
        CHECKS.due("25: the last town", x.friend(2), -1);
    }

    /** 23: of so many TOWNS (0 to 6). */
    private static void wishNumbers() {
        TownTwins x = towns(16);
        for (int wrong : new int[] {LEAST, -1, 7, 8, MOST}) {
            CHECKS.due("23: many " + wrong, x.wish(15, wrong, 0x6543210), false);
        }
        for (int many = 0; many <= 6; many++) {
            CHECKS.due("23: many " + many, x.wish(15, many, 0x6543210), true);
        }
        CHECKS.due("23: town 15 is wished", x.wish(0, 6, 0xabcdef), true);
    }

    /** 23: False: (also no such TOWN in it, one twice). T: unlike TOWNS (not itself). */
    private static void wishTowns() {
        TownTwins x = towns(8);
        for (int place = 0; place < 6; place++) {
            int[] six = {1, 2, 3, 4, 5, 6};
            six[place] = 8;
            CHECKS.due("23: no such town at " + place, wish(x, 0, six), false);
            six[place] = 15;
            CHECKS.due("23: town 15 at " + place, wish(x, 0, six), false);
            six[place] = 0;
            CHECKS.due("23: itself at " + place, wish(x, 0, six), false);
            six[place] = (place + 1) % 6 + 1;
            CHECKS.due("23: the next one twice, at " + place, wish(x, 0, six), false);
            six[place] = (place + 3) % 6 + 1;
            CHECKS.due("23: one twice, at " + place, wish(x, 0, six), false);
            six[place] = 7;
            CHECKS.due("23: the last town at " + place, wish(x, 0, six), true);
        }
        CHECKS.due("23: one thrice", wish(x, 0, 5, 5, 5), false);
        CHECKS.due("23: town 0, of another", wish(x, 1, 0), true);
        CHECKS.due("23: a town that is made later", wish(x, 1, 8), false);
        x.town(0, 0, 1, 1);
        CHECKS.due("23: now it is there", wish(x, 1, 8), true);
    }

    /** 23: of so many: the others' bits count for nothing. */
    private static void bitsBehind() {
        TownTwins x = towns(4);
        wish(x, 1, 0);
        wish(x, 2, 0);
        CHECKS.due("23: none, whatever the bits", x.wish(0, 0, -1), true);
        CHECKS.due("24: nobody is wished", x.pair(1, 6), 0);
        CHECKS.due("23: one, itself and others behind", x.wish(0, 1, row(2, 0, 2, 15)), true);
        CHECKS.due("24: one is wished", x.pair(1, 6), 1);
        friends("the one", x, 2, -1, 0);
        CHECKS.due("23: a number below 0", x.wish(0, 2, LEAST | row(1, 2)), true);
        CHECKS.due("24: two are wished", x.pair(1, 6), 1);
        friends("the dearest is lowest", x, 1, 0, -1);
    }

    /** 23: False: and the WISH ahead stays. */
    private static void refusedWishes() {
        TownTwins x = towns(4);
        wish(x, 0, 2);
        wish(x, 2, 0);
        CHECKS.due("23: too many", x.wish(0, 7, row(3)), false);
        CHECKS.due("23: below 0", x.wish(0, -1, row(3)), false);
        CHECKS.due("23: itself", wish(x, 0, 3, 0), false);
        CHECKS.due("23: one twice", wish(x, 0, 3, 1, 3), false);
        CHECKS.due("23: no such town", wish(x, 0, 3, 4), false);
        wish(x, 3, 0);
        CHECKS.due("24: the wish that was there", x.pair(1, 12), 1);
        friends("as ahead", x, 2, -1, 0, -1);
    }

    /** 23: A WISH: the latest alone. */
    private static void wishTakesThePlace() {
        TownTwins x = towns(4);
        wish(x, 0, 2, 3);
        wish(x, 2, 0);
        wish(x, 3, 0);
        wish(x, 0, 3);
        CHECKS.due("26: only one is left", x.stables(1, 4), 1);
        CHECKS.due("24: not the one that was dropped", x.pair(1, 4), 0);
        CHECKS.due("24: nor when it asks", x.pair(4, 1), 0);
        CHECKS.due("24: the one that is there", x.pair(8, 1), 1);
        friends("the latest", x, 3, -1, -1, 0);
        wish(x, 0);
        CHECKS.due("24: a wish of none", x.pair(8, 1), 0);
        wish(x, 0, 3, 2);
        CHECKS.due("24: turned round", x.pair(1, 12), 1);
        friends("turned round", x, 3, -1, -1, 0);
    }

    /** 24: NONE (what was kept stays): a bit of no TOWN. 26: NONE likewise. */
    private static void bitsOfNoTown() {
        TownTwins x = towns(3);
        wish(x, 0, 1);
        wish(x, 1, 0);
        x.pair(1, 2);
        for (int wrong : new int[] {8, 9, 16, 1 << 16, 1 << 30, LEAST, -1, MOST}) {
            CHECKS.due("24: first " + wrong, x.pair(wrong, 2), -1);
            CHECKS.due("24: second " + wrong, x.pair(4, wrong & ~4), -1);
            CHECKS.due("26: first " + wrong, x.stables(wrong, 2), -1);
            CHECKS.due("26: second " + wrong, x.stables(4, wrong & ~4), -1);
            friends("what was kept stays", x, 1, 0, -1);
        }
        CHECKS.due("24: the last town", x.pair(4, 3), 0);
        friends("another is kept", x, -1, -1, -1);
        TownTwins all = towns(16);
        CHECKS.due("24: town 15", all.pair(1 << 15, 1), 0);
        CHECKS.due("26: town 15", all.stables(1 << 15, 1), 1);
        CHECKS.due("24: bit 16", all.pair(1 << 16, 1), -1);
        CHECKS.due("26: bit 16", all.stables(1, 1 << 16), -1);
    }

    /** 24, 26: NONE: more than 6 in a set. */
    private static void moreThanSix() {
        TownTwins x = towns(16);
        CHECKS.due("24: six and six", x.pair(63, 63 << 6), 0);
        CHECKS.due("26: six and six", x.stables(63, 63 << 6), 1);
        CHECKS.due("24: seven of the first", x.pair(127, 1 << 9), -1);
        CHECKS.due("26: seven of the first", x.stables(127, 1 << 9), -1);
        CHECKS.due("24: seven of the second", x.pair(1 << 9, 127), -1);
        CHECKS.due("26: seven of the second", x.stables(1 << 9, 127), -1);
        CHECKS.due("24: seven and none", x.pair(127, 0), -1);
        CHECKS.due("26: none and seven", x.stables(0, 0xfe00), -1);
        CHECKS.due("24: all sixteen", x.pair(0xffff, 0), -1);
    }

    /** 24, 26: NONE: one in both. */
    private static void oneInBoth() {
        TownTwins x = towns(4);
        wish(x, 0, 1);
        wish(x, 1, 0);
        x.pair(1, 2);
        for (int[] sets : new int[][] {{1, 1}, {3, 2}, {7, 12}, {15, 15}, {8, 15}}) {
            CHECKS.due("24: " + sets[0] + " and " + sets[1], x.pair(sets[0], sets[1]), -1);
            CHECKS.due("26: " + sets[0] + " and " + sets[1], x.stables(sets[0], sets[1]), -1);
        }
        friends("what was kept stays", x, 1, 0, -1, -1);
    }

    /** 24, 26: sets may be empty: there is one pairing, of nobody. */
    private static void emptySets() {
        TownTwins x = towns(4);
        wish(x, 0, 1);
        wish(x, 1, 0);
        x.pair(1, 2);
        CHECKS.due("26: none and none", x.stables(0, 0), 1);
        CHECKS.due("26: some and none", x.stables(3, 0), 1);
        CHECKS.due("26: none and some", x.stables(0, 3), 1);
        CHECKS.due("24: some and none", x.pair(3, 0), 0);
        friends("nobody is kept", x, -1, -1, -1, -1);
        x.pair(1, 2);
        CHECKS.due("24: none and some", x.pair(0, 3), 0);
        friends("nobody is kept", x, -1, -1, -1, -1);
        x.pair(1, 2);
        CHECKS.due("24: none and none", x.pair(0, 0), 0);
        friends("nobody is kept", x, -1, -1, -1, -1);
    }

    /** T: only where each is in the other's WISH. */
    private static void onlyWhereEachIsWished() {
        for (int bits = 0; bits < 4; bits++) {
            TownTwins x = towns(2);
            if ((bits & 1) != 0) {
                wish(x, 0, 1);
            }
            if ((bits & 2) != 0) {
                wish(x, 1, 0);
            }
            int due = bits == 3 ? 1 : 0;
            CHECKS.due("24: wishes " + bits, x.pair(1, 2), due);
            friends("wishes " + bits, x, due == 1 ? 1 : -1, due == 1 ? 0 : -1);
            CHECKS.due("24: wishes " + bits + ", the other way", x.pair(2, 1), due);
            CHECKS.due("26: wishes " + bits, x.stables(1, 2), 1);
            CHECKS.due("26: wishes " + bits + ", the other way", x.stables(2, 1), 1);
        }
    }

    /** T: Each TOWN may have a WISH: one without has no friend. */
    private static void withoutAWish() {
        TownTwins x = towns(4);
        wish(x, 2, 0, 1);
        wish(x, 3, 1, 0);
        CHECKS.due("24: the first have no wish", x.pair(3, 12), 0);
        CHECKS.due("26: the first have no wish", x.stables(3, 12), 1);
        CHECKS.due("24: the second have no wish", x.pair(12, 3), 0);
        CHECKS.due("26: the second have no wish", x.stables(12, 3), 1);
        friends("nobody", x, -1, -1, -1, -1);
        wish(x, 0, 3);
        CHECKS.due("24: town 0 has one", x.pair(3, 12), 1);
        friends("town 0 has one", x, 3, -1, -1, 0);
    }

    /** T: gives some of the first ones one of the second: nobody of the same set, nor of none. */
    private static void withinASet() {
        TownTwins x = towns(5);
        wish(x, 0, 1, 4, 2);
        wish(x, 1, 0, 4, 3);
        wish(x, 2, 3, 4, 0);
        wish(x, 3, 2, 4, 1);
        wish(x, 4, 0, 1, 2, 3);
        CHECKS.due("24: 0 and 1 are of one set, 4 of none", x.pair(3, 12), 2);
        friends("the third each", x, 2, 3, 0, 1, -1);
        CHECKS.due("26: just this", x.stables(3, 12), 1);
        CHECKS.due("24: other sets", x.pair(1, 2), 1);
        friends("other sets", x, 1, 0, -1, -1, -1);
    }

    /** T: STABLE, if there are no two of whom each is without a friend or has the other one ahead of its friend. */
    private static void stableNotJustMany() {
        TownTwins x = towns(4);
        wish(x, 0, 2, 3);
        wish(x, 1, 2);
        wish(x, 2, 0, 1);
        wish(x, 3, 0);
        CHECKS.due("24: one pair, though two could be had", x.pair(3, 12), 1);
        friends("the dearest of each other", x, 2, -1, 0, -1);
        CHECKS.due("24: the same by the other side", x.pair(12, 3), 1);
        friends("the dearest of each other", x, 2, -1, 0, -1);
        CHECKS.due("26: one", x.stables(3, 12), 1);
        wish(x, 2, 1, 0);
        CHECKS.due("24: now two", x.pair(3, 12), 2);
        friends("two", x, 3, 2, 1, 0);
        CHECKS.due("26: one", x.stables(3, 12), 1);
    }

    /** T: BY THE FIRST: each of the first set has the dearest friend that it has in any STABLE one. */
    private static void byTheFirst() {
        TownTwins x = towns(6);
        for (int i = 0; i < 3; i++) {
            wish(x, i, 3 + i, 3 + (i + 1) % 3, 3 + (i + 2) % 3);
            wish(x, 3 + i, (i + 1) % 3, (i + 2) % 3, i);
        }
        CHECKS.due("26: three ways", x.stables(7, 56), 3);
        CHECKS.due("24: by the first", x.pair(7, 56), 3);
        friends("by the first", x, 3, 4, 5, 0, 1, 2);
        CHECKS.due("24: by the second", x.pair(56, 7), 3);
        friends("by the second", x, 5, 3, 4, 1, 2, 0);
        CHECKS.due("26: three ways from the other side", x.stables(56, 7), 3);
    }

    /** 23: the dearest lowest: each is asked in its turn, down to the sixth. */
    private static void askedDownTheRow() {
        TownTwins x = towns(12);
        for (int i = 0; i < 6; i++) {
            wish(x, i, 6, 7, 8, 9, 10, 11);
            wish(x, 6 + i, 5, 4, 3, 2, 1, 0);
        }
        CHECKS.due("24: all ask all", x.pair(63, 63 << 6), 6);
        friends("the last asks six times", x, 11, 10, 9, 8, 7, 6, 5, 4, 3, 2, 1, 0);
        CHECKS.due("26: one way", x.stables(63, 63 << 6), 1);
        wish(x, 11, 5, 4, 3, 2, 1);
        CHECKS.due("24: the sixth does not want it", x.pair(63, 63 << 6), 5);
        CHECKS.due("25: so it stays alone", x.friend(0), -1);
        CHECKS.due("25: and so does the other", x.friend(11), -1);
    }

    /** T: some of the first ones: more of one set than of the other, and the same stay alone in every STABLE one. */
    private static void someStayAlone() {
        TownTwins x = towns(5);
        wish(x, 0, 3, 4);
        wish(x, 1, 4, 3);
        wish(x, 2, 3, 4);
        wish(x, 3, 1, 0, 2);
        wish(x, 4, 0, 1, 2);
        CHECKS.due("24: three and two", x.pair(7, 24), 2);
        friends("three and two", x, 3, 4, -1, 0, 1);
        CHECKS.due("26: three and two", x.stables(7, 24), 2);
        CHECKS.due("24: two and three", x.pair(24, 7), 2);
        friends("two and three", x, 4, 3, -1, 1, 0);
        CHECKS.due("26: two and three", x.stables(24, 7), 2);
        CHECKS.due("26: the one who stays alone comes first", stablesWithTheFirstAlone(), 1);
    }

    private static int stablesWithTheFirstAlone() {
        TownTwins x = towns(4);
        wish(x, 1, 3);
        wish(x, 3, 1);
        return x.stables(7, 8);
    }

    /** T: at most 6 in each: as many STABLE ones as three rings, or one ring of six, can have. */
    private static void sixOfEach() {
        TownTwins x = towns(12);
        for (int i = 0; i < 6; i++) {
            int even = i - i % 2;
            wish(x, i, 6 + i, 6 + even + 1 - i % 2);
            wish(x, 6 + i, even + 1 - i % 2, i);
        }
        CHECKS.due("26: three rings of two", x.stables(63, 63 << 6), 8);
        TownTwins y = towns(12);
        for (int i = 0; i < 6; i++) {
            wish(y, i, 6 + i, 6 + (i + 1) % 6, 6 + (i + 2) % 6, 6 + (i + 3) % 6, 6 + (i + 4) % 6, 6 + (i + 5) % 6);
            wish(y, 6 + i, (i + 1) % 6, (i + 2) % 6, (i + 3) % 6, (i + 4) % 6, (i + 5) % 6, i);
        }
        CHECKS.due("26: one ring of six", y.stables(63, 63 << 6), 6);
        CHECKS.due("24: six pairs", y.pair(63, 63 << 6), 6);
        friends("each the dearest", y, 6, 7, 8, 9, 10, 11, 0, 1, 2, 3, 4, 5);
        TownTwins last = towns(16);
        wish(last, 15, 0);
        wish(last, 0, 15);
        CHECKS.due("24: the first and the last town", last.pair(1, 1 << 15), 1);
        CHECKS.due("25: of the last", last.friend(15), 0);
        CHECKS.due("25: of the first", last.friend(0), 15);
    }

    /** T: BY THE FIRST, where the first ones are refused so often that 26 rounds of asking are needed. */
    private static void refusedAgainAndAgain() {
        int[][] firsts = {
            {7, 9, 11, 6, 8, 10}, {8, 11, 6, 9, 7, 10}, {9, 11, 7, 6, 8, 10},
            {11, 6, 8, 7, 9, 10}, {6, 7, 8, 9, 11, 10}, {9, 7, 8, 11, 6, 10},
        };
        int[][] seconds = {
            {5, 4, 1, 3, 2, 0}, {1, 0, 2, 4, 3, 5}, {2, 0, 1, 3, 5, 4},
            {3, 0, 2, 5, 4, 1}, {4, 0, 3, 1, 5, 2}, {4, 2, 3, 5, 0, 1},
        };
        TownTwins x = towns(12);
        for (int i = 0; i < 6; i++) {
            wish(x, i, firsts[i]);
            wish(x, 6 + i, seconds[i]);
        }
        CHECKS.due("24: six pairs in the end", x.pair(63, 63 << 6), 6);
        friends("the last one that each asks", x, 10, 7, 8, 9, 11, 6, 5, 1, 2, 3, 0, 4);
        CHECKS.due("26: no other way", x.stables(63, 63 << 6), 1);
        CHECKS.due("24: the other way round", x.pair(63 << 6, 63), 6);
        friends("the same", x, 10, 7, 8, 9, 11, 6, 5, 1, 2, 3, 0, 4);
    }

    /** 25: The friend of a TOWN by what is kept; NONE. */
    private static void whatIsKept() {
        TownTwins x = towns(3);
        friends("nothing is kept", x, -1, -1, -1);
        wish(x, 0, 1);
        wish(x, 1, 0);
        friends("a wish alone", x, -1, -1, -1);
        x.pair(1, 2);
        wish(x, 0, 2);
        wish(x, 1);
        x.town(0, 0, 1, 1);
        friends("what is kept stays with other wishes and towns", x, 1, 0, -1, -1);
        CHECKS.due("24: nobody", x.pair(1, 2), 0);
        friends("nobody is kept", x, -1, -1, -1, -1);
    }

    /** 26: How many STABLE PAIRINGS there are: a question that changes nothing. */
    private static void stablesKeepNothing() {
        TownTwins x = towns(4);
        wish(x, 0, 2, 3);
        wish(x, 1, 3, 2);
        wish(x, 2, 1, 0);
        wish(x, 3, 0, 1);
        CHECKS.due("26: two ways", x.stables(3, 12), 2);
        friends("nothing is kept", x, -1, -1, -1, -1);
        x.pair(3, 12);
        CHECKS.due("26: two ways again", x.stables(12, 3), 2);
        CHECKS.due("26: another question", x.stables(1, 8), 1);
        friends("what was kept stays", x, 2, 3, 0, 1);
    }

    private static final int[][] OF_TWO = {{}, {0}, {1}, {0, 1}, {1, 0}};

    /** T: every case of two and two. */
    private static void everyCaseOfTwo() {
        for (int code = 0; code < 625; code++) {
            TownTwins x = towns(4);
            Model due = model(4);
            int rest = code;
            for (int town = 0; town < 4; town++) {
                compareWish(x, due, town, OF_TWO[rest % 5], town < 2 ? 2 : 0);
                rest /= 5;
            }
            compare("case " + code, x, due, 3, 12, 4);
        }
    }

    private static final int[][] OF_THREE = {
        {0, 1, 2}, {0, 2, 1}, {1, 0, 2}, {1, 2, 0}, {2, 0, 1}, {2, 1, 0}, {0, 1}, {1, 0}, {0, 2}, {2, 0}, {1, 2},
        {2, 1}, {0}, {1}, {2}, {},
    };

    /** T: some thousand cases of three and three, spread over all 16 to the 6th. */
    private static void manyCasesOfThree() {
        for (int n = 0; n < 3000; n++) {
            int code = (int) (n * 5592409L & 0xffffff);
            TownTwins x = towns(6);
            Model due = model(6);
            for (int town = 0; town < 6; town++) {
                compareWish(x, due, town, OF_THREE[code >> 4 * town & 15], town < 3 ? 3 : 0);
            }
            compare("case " + code + " of three", x, due, 7, 56, 6);
        }
    }

    private static Model model(int towns) {
        Model model = new Model();
        for (int i = 0; i < towns; i++) {
            model.town(0, 0, 1, 1);
        }
        return model;
    }

    private static void compareWish(TownTwins x, Model due, int town, int[] places, int from) {
        int[] wished = new int[places.length];
        for (int i = 0; i < places.length; i++) {
            wished[i] = from + places[i];
        }
        CHECKS.due("23: wish", wish(x, town, wished), due.wish(town, wished.length, row(wished)));
    }

    private static void compare(String what, TownTwins x, Model due, int first, int second, int towns) {
        CHECKS.due("26: " + what, x.stables(first, second), due.stables(first, second));
        CHECKS.due("24: " + what, x.pair(first, second), due.pair(first, second));
        for (int town = 0; town < towns; town++) {
            CHECKS.due("25: " + what + ", town " + town, x.friend(town), due.friend(town));
        }
        CHECKS.due("24: " + what + ", turned", x.pair(second, first), due.pair(second, first));
        for (int town = 0; town < towns; town++) {
            CHECKS.due("25: " + what + ", turned, town " + town, x.friend(town), due.friend(town));
        }
    }
}

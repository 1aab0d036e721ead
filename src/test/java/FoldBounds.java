/** Boundary cases of the promises 23 to 30: folds, lies, orders and truth. */
final class FoldBounds {
    private static final String[] HALVES = {"aaaaaaaa", "aaaaaaaa", "aaaaaaaa", "aaaaaaaa",
        "bbbbbbbb", "bbbbbbbb", "bbbbbbbb", "bbbbbbbb"};
    private static final String[] SIDES = {"aaaabbbb", "aaaabbbb", "aaaabbbb", "aaaabbbb",
        "aaaabbbb", "aaaabbbb", "aaaabbbb", "aaaabbbb"};

    private FoldBounds() {
    }

    // ---- promises 23 and 24: lies, liesAgain

    private static void liesAre(boolean isAgain, MapScales m, boolean isRow, int... want) {
        for (int crease = 1; crease <= 7; crease++) {
            int at = crease;
            Due.is("lies, again " + isAgain + ", row " + isRow + ", crease " + at, want[at - 1],
                    () -> isAgain ? m.liesAgain(isRow, at) : m.lies(isRow, at));
        }
    }

    /** No lies, the most that there can be, and lies between realms and none. */
    private static void liesAreAsDue(boolean isAgain) {
        for (boolean isRow : new boolean[] {true, false}) {
            liesAre(isAgain, new MapScales(), isRow, 0, 0, 0, 0, 0, 0, 0);
        }
        liesAre(isAgain, Due.map(HALVES), true, 0, 0, 16, 32, 16, 0, 0);
        liesAre(isAgain, Due.map(HALVES), false, 0, 0, 0, 0, 0, 0, 0);
        liesAre(isAgain, Due.map(SIDES), false, 0, 0, 16, 32, 16, 0, 0);
        liesAre(isAgain, Due.map(SIDES), true, 0, 0, 0, 0, 0, 0, 0);
        String[] realms = {"abcd....", "abcd....", "dcba....", "dcba....", "", "", "", ""};
        liesAre(isAgain, Due.map(realms), true, 0, 8, 8, 16, 8, 0, 0);
        liesAre(isAgain, Due.map(realms), false, 4, 8, 12, 16, 8, 0, 0);
    }

    /** One cell of a realm in each of the rows or columns shows which of them lie upon another one. */
    private static void foldsAreAsDue(boolean isAgain) {
        int[][] partners = {
            {1, 0, -1, -1, -1, -1, -1, -1}, {3, 2, 1, 0, -1, -1, -1, -1}, {5, 4, 3, 2, 1, 0, -1, -1},
            {7, 6, 5, 4, 3, 2, 1, 0},
            {-1, -1, 7, 6, 5, 4, 3, 2}, {-1, -1, -1, -1, 7, 6, 5, 4}, {-1, -1, -1, -1, -1, -1, 7, 6}};
        for (int k = 0; k < 8; k++) {
            int[] want = new int[7];
            int[] alike = new int[7];
            for (int crease = 1; crease <= 7; crease++) {
                want[crease - 1] = partners[crease - 1][k] < 0 ? 0 : 1;
            }
            MapScales row = new MapScales();
            row.paint(8 * k + 3, 2);
            liesAre(isAgain, row, true, want);
            MapScales column = new MapScales();
            column.paint(24 + k, 2);
            liesAre(isAgain, column, false, want);
            MapScales whole = new MapScales();
            for (int y = 0; y < 8; y++) {
                whole.paint(8 * y + k, 2);
            }
            liesAre(isAgain, whole, true, alike);
        }
    }

    @Holds(promise = 23, says = "Returns how many lies there are if the map is folded: pair by pair.")
    static void liesOfNoneAndOfMost() {
        liesAreAsDue(false);
    }

    @Holds(promise = 23, says = "the rows or columns on both sides of the crease lie upon each other, the next ones upon the "
            + "next ones, as far as both are there.")
    static void liesReachAsFarAsBothAreThere() {
        foldsAreAsDue(false);
    }

    @Holds(promise = 23, says = "and belong to unlike realms, or one of them to none and the other one to a realm.")
    static void liesOfUnlikeRealmsAndOfNone() {
        Due.is("unlike realms", 1, () -> Due.map("a", "b").lies(true, 1));
        Due.is("a realm upon none", 1, () -> Due.map("a", "").lies(true, 1));
        Due.is("none upon a realm", 1, () -> Due.map("", "d").lies(true, 1));
        Due.is("one realm", 0, () -> Due.map("d", "d").lies(true, 1));
        Due.is("none upon none", 0, () -> Due.map("", "", "d").lies(true, 1));
    }

    @Holds(promise = 23, says = "`isRow`: whether it is folded between two rows, and not between two columns")
    static void liesBetweenRowsAndBetweenColumns() {
        MapScales m = Due.map("abb");
        Due.is("rows", 3, () -> m.lies(true, 1));
        Due.is("columns", 1, () -> m.lies(false, 1));
    }

    @Holds(promise = 23, says = "`crease`: behind how many rows or columns, 1 to 7")
    static void liesAtTheFirstAndTheLastCrease() {
        MapScales rows = Due.map("aa", "a", "", "", "", "", "bbb");
        Due.is("behind the first row", 1, () -> rows.lies(true, 1));
        Due.is("ahead of the last row", 3, () -> rows.lies(true, 7));
        MapScales columns = Due.map("a......d", "......c");
        Due.is("behind the first column", 1, () -> columns.lies(false, 1));
        Due.is("ahead of the last column", 2, () -> columns.lies(false, 7));
    }

    @Holds(promise = 23, says = "Throws `IllegalArgumentException` if there is no such crease")
    static void liesKnowNoCreaseOutside() {
        Due.outside("lies between rows", Due.ARGUMENT, () -> Due.map("ab"), (m, crease) -> m.lies(true, crease), 0, 8, -1);
        Due.outside("lies between columns", Due.ARGUMENT, () -> Due.map("ab"), (m, crease) -> m.lies(false, crease), 0, 8, -1);
    }

    @Holds(promise = 24, says = "Returns the same by a second way: all pairs, less those that are alike, realm by realm.")
    static void liesAgainOfNoneAndOfMost() {
        liesAreAsDue(true);
    }

    @Holds(promise = 24, says = "the rows or columns on both sides of the crease lie upon each other, the next ones upon the "
            + "next ones, as far as both are there.")
    static void liesAgainReachAsFarAsBothAreThere() {
        foldsAreAsDue(true);
    }

    @Holds(promise = 24, says = "and belong to unlike realms, or one of them to none and the other one to a realm.")
    static void liesAgainOfUnlikeRealmsAndOfNone() {
        Due.is("unlike realms", 1, () -> Due.map("a", "b").liesAgain(true, 1));
        Due.is("a realm upon none", 1, () -> Due.map("a", "").liesAgain(true, 1));
        Due.is("none upon a realm", 1, () -> Due.map("", "d").liesAgain(true, 1));
        Due.is("one realm", 0, () -> Due.map("d", "d").liesAgain(true, 1));
        Due.is("none upon none", 0, () -> Due.map("", "", "d").liesAgain(true, 1));
    }

    @Holds(promise = 24, says = "`isRow`: whether it is folded between two rows, and not between two columns")
    static void liesAgainBetweenRowsAndBetweenColumns() {
        MapScales m = Due.map("abb");
        Due.is("rows", 3, () -> m.liesAgain(true, 1));
        Due.is("columns", 1, () -> m.liesAgain(false, 1));
    }

    @Holds(promise = 24, says = "`crease`: behind how many rows or columns, 1 to 7")
    static void liesAgainAtTheFirstAndTheLastCrease() {
        MapScales rows = Due.map("aa", "a", "", "", "", "", "bbb");
        Due.is("behind the first row", 1, () -> rows.liesAgain(true, 1));
        Due.is("ahead of the last row", 3, () -> rows.liesAgain(true, 7));
        MapScales columns = Due.map("a......d", "......c");
        Due.is("behind the first column", 1, () -> columns.liesAgain(false, 1));
        Due.is("ahead of the last column", 2, () -> columns.liesAgain(false, 7));
    }

    @Holds(promise = 24, says = "Throws `IllegalArgumentException` if there is no such crease")
    static void liesAgainKnowNoCreaseOutside() {
        Due.outside("liesAgain, rows", Due.ARGUMENT, () -> Due.map("ab"), (m, crease) -> m.liesAgain(true, crease), 0, 8, -1);
        Due.outside("liesAgain, columns", Due.ARGUMENT, () -> Due.map("ab"), (m, crease) -> m.liesAgain(false, crease), 0, 8, -1);
    }

    // ---- promise 25: bestFold

    @Holds(promise = 25, says = "Returns the crease with the fewest lies, of several the first one.")
    static void bestFoldIsTheFirstOfSeveral() {
        Due.is("rows, all alike", 1, () -> new MapScales().bestFold(true));
        Due.is("columns, all alike", 1, () -> new MapScales().bestFold(false));
        Due.is("2, 6 and 7", 2, () -> Due.map("a", "b", "b", "a").bestFold(true));
        Due.is("2, 6 and 7", 2, () -> Due.map("abba....").bestFold(false));
        Due.is("1 and 7, of one lie each", 1, () -> Due.map("abcdabcd").bestFold(false));
    }

    @Holds(promise = 25, says = "Returns the crease with the fewest lies")
    static void bestFoldIsTheFirstTheLastOrBetween() {
        Due.is("1 alone", 1, () -> Due.map("aabcdabc").bestFold(false));
        Due.is("7 alone", 7, () -> Due.map("abcdabcc").bestFold(false));
        Due.is("4 alone", 4, () -> Due.map("abcddcba").bestFold(false));
        Due.is("1 alone", 1, () -> Due.map("a", "a", "b", "c", "d", "a", "b", "c").bestFold(true));
        Due.is("7 alone", 7, () -> Due.map("a", "b", "c", "d", "a", "b", "c", "c").bestFold(true));
        Due.is("4 alone", 4, () -> Due.map("a", "b", "c", "d", "d", "c", "b", "a").bestFold(true));
    }

    @Holds(promise = 25, says = "`isRow`: whether it is folded between two rows, and not between two columns")
    static void bestFoldBetweenRowsAndBetweenColumns() {
        MapScales m = Due.map("abcdabcc", "abcdabcc");
        Due.is("rows", 1, () -> m.bestFold(true));
        Due.is("columns", 7, () -> m.bestFold(false));
    }

    // ---- promise 26: wrong

    @Holds(promise = 26, says = "Returns by how many miles all rivers together are told wrongly, too long or too short.")
    static void wrongByTooMuchAndByTooLittle() {
        MapScales m = new MapScales();
        Due.drawRiver(m, 0, "eee", 3);
        Due.is("right", 0, () -> m.wrong());
        Due.drawRiver(m, 0, "eee", 4);
        Due.is("too long by 1", 1, () -> m.wrong());
        Due.drawRiver(m, 0, "eee", 1);
        Due.is("too short by 2", 3, () -> m.wrong());
        MapScales most = new MapScales();
        most.scale(9);
        for (int river = 0; river < 4; river++) {
            Due.drawRiver(most, 0, "ewewewewewew", 0);
        }
        Due.is("four by 108", 432, () -> most.wrong());
        MapScales longest = new MapScales();
        Due.drawRiver(longest, 0, "e", 99);
        Due.is("by 98", 98, () -> longest.wrong());
    }

    @Holds(promise = 26, says = "By how many miles rivers are told wrongly is added up river by river, each without a sign.")
    static void wrongHasNoSigns() {
        MapScales m = new MapScales();
        Due.drawRiver(m, 0, "eee", 5);
        Due.drawRiver(m, 0, "eee", 1);
        Due.is("2 and 2", 4, () -> m.wrong());
    }

    @Holds(promise = 26, says = "If there are no rivers, none is told wrongly.")
    static void wrongWithoutRivers() {
        MapScales m = new MapScales();
        Due.is("none yet", 0, () -> m.wrong());
        m.scale(9);
        Due.drawRiver(m, 0, "e", 99);
        m.drop(0);
        Due.is("none any more", 0, () -> m.wrong());
    }

    // ---- promise 27: bestScale

    @Holds(promise = 27, says = "Returns the scale by which all rivers together would be told the least wrongly")
    static void bestScaleIsOneToNine() {
        MapScales low = new MapScales();
        Due.drawRiver(low, 0, "e", 0);
        Due.is("1, if it is told too short by all", 1, () -> low.bestScale());
        MapScales high = new MapScales();
        Due.drawRiver(high, 0, "e", 99);
        Due.is("9, if it is told too long by all", 9, () -> high.bestScale());
        MapScales nine = new MapScales();
        Due.drawRiver(nine, 0, "ee", 18);
        Due.is("9, if it is right", 9, () -> nine.bestScale());
        MapScales two = new MapScales();
        Due.drawRiver(two, 0, "ewewewewewew", 24);
        Due.drawRiver(two, 0, "e", 9);
        Due.is("2, by the longer one", 2, () -> two.bestScale());
        two.scale(7);
        Due.is("2, whatever the scale is", 2, () -> two.bestScale());
    }

    @Holds(promise = 27, says = "of several the lowest.")
    static void bestScaleIsTheLowestOfSeveral() {
        MapScales m = new MapScales();
        Due.drawRiver(m, 0, "ee", 7);
        Due.is("3 and 4", 3, () -> m.bestScale());
        MapScales four = new MapScales();
        Due.drawRiver(four, 0, "e", 6);
        Due.drawRiver(four, 0, "e", 3);
        Due.is("3 to 6", 3, () -> four.bestScale());
        MapScales all = new MapScales();
        Due.drawRiver(all, 0, "e", 0);
        Due.drawRiver(all, 0, "e", 99);
        Due.is("1 to 9", 1, () -> all.bestScale());
    }

    @Holds(promise = 27, says = "Throws `NoSuchElementException` if there are no rivers")
    static void bestScaleNeedsARiver() {
        MapScales m = new MapScales();
        Due.keeps(m, "none yet", Due.ELEMENT, () -> m.bestScale());
        Due.drawRiver(m, 0, "e", 1);
        Due.is("one", 1, () -> m.bestScale());
        m.drop(0);
        Due.fails("none any more", Due.ELEMENT, () -> m.bestScale());
    }

    // ---- promise 28: ranked

    @Holds(promise = 28, says = "Returns a realm by its cells: the most first")
    static void rankedByCells() {
        Due.answers("from the lowest to the highest", Due.map("aaaabbbc", "cd")::ranked, 0, 1, 2, 3);
        Due.answers("from the highest to the lowest", Due.map("dddd", "ccc", "bb", "a")::ranked, 3, 2, 1, 0);
        MapScales m = Due.map("cccb");
        m.dragon(0, 50);
        Due.answers("by cells ahead of coins", m::ranked, 2, 1, 0, 3);
        m.paint(8, 1);
        m.paint(9, 1);
        Due.answers("as many, with more coins", m::ranked, 1, 2, 0, 3);
    }

    @Holds(promise = 28, says = "of several the one with more coins")
    static void rankedByCoins() {
        MapScales m = Due.map("abcd");
        m.dragon(0, 3);
        m.dragon(1, 2);
        m.dragon(2, 1);
        Due.answers("from the highest to the lowest", m::ranked, 3, 2, 1, 0);
        m.paint(0, -1);
        m.paint(0, 0);
        Due.answers("with the coins back", m::ranked, 0, 3, 2, 1);
        MapScales bare = Due.map("a");
        bare.dragon(0, 1);
        bare.scare(0);
        bare.paint(0, -1);
        Due.answers("without cells", bare::ranked, 1, 2, 3, 0);
    }

    @Holds(promise = 28, says = "then the lowest.")
    static void rankedByNumbers() {
        Due.answers("without cells", new MapScales()::ranked, 0, 1, 2, 3);
        Due.answers("one cell each", Due.map("dcba")::ranked, 0, 1, 2, 3);
        Due.answers("two and two", Due.map("d.c.b.a.", "d...b")::ranked, 1, 3, 0, 2);
    }

    @Holds(promise = 28, says = "`place`: the place in that order, from 0")
    static void rankedFromNoneToThree() {
        MapScales m = Due.map("dddd", "ccc", "bb", "a");
        Due.is("the first place", 3, () -> m.ranked(0));
        Due.is("the last place", 0, () -> m.ranked(3));
    }

    @Holds(promise = 28, says = "Throws `NoSuchElementException` if there is no such place")
    static void rankedKnowsNoPlaceOutside() {
        Due.outside("ranked", Due.ELEMENT, () -> Due.map("abcd"), MapScales::ranked, -1, 4);
        Due.outside("ranked, without cells", Due.ELEMENT, MapScales::new, MapScales::ranked, -1, 4);
    }

    // ---- promise 29: heaviest

    /** A map with two rivers that have the weight 4, of which the second one has more steps, and one that is lighter. */
    private static MapScales threeRivers() {
        MapScales m = Due.map("aa");
        Due.drawRiver(m, 0, "e", 1);
        Due.drawRiver(m, 40, "eee", 1);
        Due.drawRiver(m, 40, "e", 1);
        return m;
    }

    @Holds(promise = 29, says = "Returns a river by its weight: the heaviest first")
    static void heaviestByWeight() {
        MapScales m = Due.map("ab");
        Due.drawRiver(m, 63, "w", 1);
        Due.drawRiver(m, 63, "wwwwwww", 1);
        Due.drawRiver(m, 63, "ww", 1);
        Due.drawRiver(m, 0, "ew", 1);
        Due.answers("2, 8, 3 and 12", m::heaviest, 3, 1, 2, 0);
        m.paint(1, 0);
        m.paint(0, -1);
        m.paint(1, -1);
        Due.answers("2, 8, 3 and 3", m::heaviest, 1, 2, 3, 0);
    }

    @Holds(promise = 29, says = "of several the one with more steps")
    static void heaviestBySteps() {
        MapScales m = threeRivers();
        Due.answers("two of 4", m::heaviest, 1, 0, 2);
        m.drop(0);
        Due.drawRiver(m, 0, "e", 1);
        Due.answers("two of 4, the other way round", m::heaviest, 0, 2, 1);
    }

    @Holds(promise = 29, says = "then the lowest.")
    static void heaviestByNumbers() {
        MapScales m = new MapScales();
        for (int river = 0; river < 4; river++) {
            Due.drawRiver(m, 8 * river, "es", 1);
        }
        Due.answers("four alike", m::heaviest, 0, 1, 2, 3);
    }

    @Holds(promise = 29, says = "`place`: the place in that order, from 0")
    static void heaviestFromNoneToThree() {
        MapScales m = threeRivers();
        Due.is("the first place", 1, () -> m.heaviest(0));
        Due.is("the last place", 2, () -> m.heaviest(2));
        Due.drawRiver(m, 0, "s", 1);
        Due.is("the fourth place", 2, () -> m.heaviest(3));
    }

    @Holds(promise = 29, says = "Throws `NoSuchElementException` if there is no such place")
    static void heaviestKnowsNoPlaceOutside() {
        Due.outside("heaviest, of none", Due.ELEMENT, MapScales::new, MapScales::heaviest, -1, 0);
        Due.outside("heaviest, of three", Due.ELEMENT, FoldBounds::threeRivers, MapScales::heaviest, -1, 3);
        MapScales full = threeRivers();
        Due.drawRiver(full, 0, "s", 1);
        Due.fails("heaviest, of four", Due.ELEMENT, () -> full.heaviest(4));
    }

    // ---- promise 30: isTrue

    @Holds(promise = 30, says = "Tells whether weights, borders, parts and lies are told alike by both ways")
    static void isTrueOfBareAndOfWholeMaps() {
        Due.is("a bare map", true, () -> new MapScales().isTrue());
        Due.is("halves", true, () -> Due.map(HALVES).isTrue());
        MapScales m = Due.map(SIDES);
        Due.drawRiver(m, 0, "e", 1);
        Due.drawRiver(m, 3, "ewewewewewew", 1);
        Due.drawRiver(m, 63, "n", 1);
        Due.drawRiver(m, 2, "esw", 1);
        Due.is("four rivers", true, () -> m.isTrue());
        m.paint(3, -1);
        m.paint(60, 3);
        Due.is("with a cell of none, and an only cell", true, () -> m.isTrue());
    }

    @Holds(promise = 30, says = "what realms won by shaving is what others lost")
    static void isTrueOfWonAndLost() {
        MapScales m = Due.map("abbbd");
        m.shave(1, 0);
        m.shave(1, 1);
        m.shave(3, 3);
        Due.is("shaved thrice", true, () -> m.isTrue());
        m.paint(0, -1);
        m.paint(3, 2);
        Due.is("painted since", true, () -> m.isTrue());
        Due.fails("refused", Due.REFUSED, () -> m.shave(0, 0));
        Due.is("refused since", true, () -> m.isTrue());
    }

    @Holds(promise = 30, says = "and the coins of realms, the prices of dragons that are there, and those that were lost are 400 "
            + "together.")
    static void isTrueOfCoins() {
        MapScales m = Due.map("aabbc");
        m.dragon(0, 50);
        m.dragon(1, 50);
        m.dragon(2, 1);
        m.dragon(3, 49);
        m.dragon(4, 50);
        Due.is("five dragons", true, () -> m.isTrue());
        m.scare(0);
        m.scare(3);
        Due.is("two were scared", true, () -> m.isTrue());
        m.paint(1, 3);
        Due.is("one was refunded", true, () -> m.isTrue());
        m.paint(2, -1);
        m.paint(3, -1);
        Due.is("all are gone", true, () -> m.isTrue());
        Due.is("coins", 300, () -> m.account(3));
        Due.is("lost", 100, () -> m.account(8));
    }
}

/** Boundary cases of the promises 9 to 22: what is drawn, weights, borders and parts. */
final class AskBounds {
    private static final String[] ALL_OF_D = {"dddddddd", "dddddddd", "dddddddd", "dddddddd",
        "dddddddd", "dddddddd", "dddddddd", "dddddddd"};
    private static final String[] BOARD = {"abababab", "babababa", "abababab", "babababa",
        "abababab", "babababa", "abababab", "babababa"};

    private AskBounds() {
    }

    /** A map with two rivers: the first one crosses borders at each step, the second one lies in no realm. */
    private static MapScales riverMap() {
        MapScales m = Due.map("ab");
        Due.drawRiver(m, 0, "ewewewewewew", 99);
        Due.drawRiver(m, 63, "n", 0);
        return m;
    }

    private static MapScales fourRivers() {
        MapScales m = riverMap();
        Due.drawRiver(m, 40, "nn", 7);
        Due.drawRiver(m, 1, "w", 8);
        return m;
    }

    private static MapScales dragonMap() {
        MapScales m = Due.map("a..d");
        m.paint(63, 2);
        m.dragon(0, 1);
        m.dragon(63, 50);
        m.dragon(3, 20);
        return m;
    }

    /** A map with one cell of realm 2. */
    private static MapScales oneCell(int cell) {
        MapScales m = new MapScales();
        m.paint(cell, 2);
        return m;
    }

    // ---- promise 9: realmAt

    @Holds(promise = 9, says = "Returns the realm of a cell.")
    static void realmAtTellsTheFirstAndTheLastCell() {
        MapScales m = Due.map("b");
        m.paint(63, 3);
        Due.is("the first cell", 1, () -> m.realmAt(0));
        Due.is("the one behind", -1, () -> m.realmAt(1));
        Due.is("the one ahead", -1, () -> m.realmAt(62));
        Due.is("the last cell", 3, () -> m.realmAt(63));
    }

    @Holds(promise = 9, says = "Returns the realm, -1 for none.")
    static void realmAtTellsNone() {
        MapScales m = Due.map("a");
        Due.is("the lowest realm", 0, () -> m.realmAt(0));
        Due.is("none", -1, () -> m.realmAt(1));
        m.paint(0, -1);
        Due.is("none again", -1, () -> m.realmAt(0));
    }

    @Holds(promise = 9, says = "Throws `IndexOutOfBoundsException` if there is no such cell")
    static void realmAtKnowsNoCellOutside() {
        Due.outside("realmAt", Due.INDEX, () -> Due.map("abcd"), MapScales::realmAt, -1, 64);
    }

    // ---- promise 10: realmOf

    @Holds(promise = 10, says = "`what`: 0 for its cells")
    static void realmOfTellsNoCellsAndAll() {
        MapScales m = Due.map(ALL_OF_D);
        Due.answers("cells of", realm -> m.realmOf(realm, 0), 0, 0, 0, 64);
        m.paint(63, 0);
        Due.answers("cells of", realm -> m.realmOf(realm, 0), 1, 0, 0, 63);
    }

    @Holds(promise = 10, says = "1 for its coins")
    static void realmOfTellsNoCoinsAndHundred() {
        MapScales m = Due.map("aa");
        m.dragon(0, 50);
        m.dragon(1, 50);
        Due.answers("coins of", realm -> m.realmOf(realm, 1), 0, 100, 100, 100);
        m.paint(0, 3);
        m.paint(1, 3);
        Due.answers("coins of", realm -> m.realmOf(realm, 1), 100, 100, 100, 100);
    }

    @Holds(promise = 10, says = "2 for the dragons on its cells")
    static void realmOfTellsNoDragonsAndFive() {
        MapScales m = Due.map("bbbbb");
        Due.alike("dragons of", 0, 0, 3, realm -> m.realmOf(realm, 2));
        for (int cell = 0; cell < 5; cell++) {
            m.dragon(cell, 1);
        }
        Due.answers("dragons of", realm -> m.realmOf(realm, 2), 0, 5, 0, 0);
        m.paint(4, 2);
        Due.answers("dragons of", realm -> m.realmOf(realm, 2), 0, 4, 0, 0);
    }

    @Holds(promise = 10, says = "3 for how many cells it won by shaving so far, 4 for how many it lost so")
    static void realmOfTellsWhatWasWonAndLostByShavingAlone() {
        MapScales m = Due.map("abbbd");
        m.shave(1, 0);
        m.shave(1, 1);
        m.shave(1, 0);
        m.shave(3, 3);
        m.paint(1, -1);
        m.paint(0, 2);
        m.paint(20, 0);
        Due.answers("won by", realm -> m.realmOf(realm, 3), 2, 1, 0, 1);
        Due.answers("lost by", realm -> m.realmOf(realm, 4), 1, 3, 0, 0);
    }

    @Holds(promise = 10, says = "5 for how many rivers have a cell of it")
    static void realmOfTellsNoRiversAndFour() {
        MapScales m = Due.map("a.b");
        Due.drawRiver(m, 0, "e", 1);
        Due.drawRiver(m, 2, "ww", 1);
        Due.drawRiver(m, 0, "ewew", 1);
        Due.answers("first, last, often", realm -> m.realmOf(realm, 5), 3, 1, 0, 0);
        Due.drawRiver(m, 9, "nw", 1);
        Due.answers("all four", realm -> m.realmOf(realm, 5), 4, 1, 0, 0);
        m.paint(0, -1);
        Due.answers("none", realm -> m.realmOf(realm, 5), 0, 1, 0, 0);
    }

    @Holds(promise = 10, says = "Throws `IndexOutOfBoundsException` if there is no such realm")
    static void realmOfKnowsNoRealmOutside() {
        for (int what = 0; what < 6; what++) {
            int at = what;
            Due.outside("realmOf(realm, " + at + ")", Due.INDEX, AskBounds::riverMap, (m, realm) -> m.realmOf(realm, at), -1, 4);
        }
    }

    @Holds(promise = 10, says = "Throws `IllegalArgumentException` if what is not 0 to 5")
    static void realmOfHasNoOtherNumbers() {
        Due.outside("realmOf(0, what)", Due.ARGUMENT, AskBounds::riverMap, (m, what) -> m.realmOf(0, what), -1, 6);
    }

    @Holds(promise = 10, says = "If several exceptions apply, the one that is documented first is thrown.")
    static void realmOfMissesTheRealmFirst() {
        Due.fails("realmOf(4, 6)", Due.INDEX, () -> new MapScales().realmOf(4, 6));
        Due.fails("realmOf(-1, -1)", Due.INDEX, () -> new MapScales().realmOf(-1, -1));
    }

    // ---- promise 11: riverOf

    @Holds(promise = 11, says = "`what`: 0 for its first cell, 1 for its steps, 2 for its last cell")
    static void riverOfTellsTheShortestAndTheLongest() {
        MapScales m = riverMap();
        Due.answers("twelve steps", what -> m.riverOf(0, what), 0, 12, 0);
        Due.answers("one step", what -> m.riverOf(1, what), 63, 1, 55);
    }

    @Holds(promise = 11, says = "3 for the miles that it is told to be long")
    static void riverOfTellsNoMilesAndNinetyNine() {
        MapScales m = riverMap();
        m.scale(9);
        Due.is("99", 99, () -> m.riverOf(0, 3));
        Due.is("0", 0, () -> m.riverOf(1, 3));
    }

    @Holds(promise = 11, says = "4 for those that it is long by the scale")
    static void riverOfTellsOneMileAndHundredAndEight() {
        MapScales m = riverMap();
        Due.is("one step of 1", 1, () -> m.riverOf(1, 4));
        Due.is("twelve steps of 1", 12, () -> m.riverOf(0, 4));
        m.scale(9);
        Due.is("one step of 9", 9, () -> m.riverOf(1, 4));
        Due.is("twelve steps of 9", 108, () -> m.riverOf(0, 4));
    }

    @Holds(promise = 11, says = "5 for how many of its steps cross a border")
    static void riverOfTellsNoCrossingsAndTwelve() {
        MapScales m = riverMap();
        Due.is("each step", 12, () -> m.riverOf(0, 5));
        Due.is("no step", 0, () -> m.riverOf(1, 5));
        m.paint(1, 0);
        Due.is("in one realm", 0, () -> m.riverOf(0, 5));
    }

    @Holds(promise = 11, says = "A step crosses a border if the cells ahead of it and behind it belong to unlike realms, or one "
            + "of them to none and the other one to a realm.")
    static void riverOfTellsCrossingsToNoneAndFromIt() {
        MapScales m = Due.map(".a.");
        Due.drawRiver(m, 0, "e", 1);
        Due.drawRiver(m, 1, "e", 1);
        Due.drawRiver(m, 8, "e", 1);
        Due.is("from none", 1, () -> m.riverOf(0, 5));
        Due.is("to none", 1, () -> m.riverOf(1, 5));
        Due.is("from none to none", 0, () -> m.riverOf(2, 5));
    }

    @Holds(promise = 11, says = "Throws `IndexOutOfBoundsException` if there is no such river")
    static void riverOfKnowsNoRiverOutside() {
        Due.outside("riverOf, of none", Due.INDEX, MapScales::new, (m, river) -> m.riverOf(river, 0), -1, 0);
        Due.outside("riverOf, of two", Due.INDEX, AskBounds::riverMap, (m, river) -> m.riverOf(river, 5), -1, 2);
        Due.outside("riverOf, of four", Due.INDEX, AskBounds::fourRivers, (m, river) -> m.riverOf(river, 1), -1, 4);
    }

    @Holds(promise = 11, says = "Throws `IllegalArgumentException` if what is not 0 to 5")
    static void riverOfHasNoOtherNumbers() {
        Due.outside("riverOf(1, what)", Due.ARGUMENT, AskBounds::riverMap, (m, what) -> m.riverOf(1, what), -1, 6);
    }

    @Holds(promise = 11, says = "If several exceptions apply, the one that is documented first is thrown.")
    static void riverOfMissesTheRiverFirst() {
        Due.fails("riverOf(0, 6)", Due.INDEX, () -> new MapScales().riverOf(0, 6));
        Due.fails("riverOf(-1, -1)", Due.INDEX, () -> riverMap().riverOf(-1, -1));
    }

    // ---- promise 12: riverAt

    @Holds(promise = 12, says = "`place`: the place, 0 for its first cell, 1 for that behind its first step, and so on")
    static void riverAtTellsTheFirstAndTheLastPlace() {
        MapScales m = fourRivers();
        Due.answers("twelve steps", place -> m.riverAt(0, place), 0, 1, 0, 1, 0, 1, 0, 1, 0, 1, 0, 1, 0);
        Due.answers("one step", place -> m.riverAt(1, place), 63, 55);
        Due.answers("two steps", place -> m.riverAt(2, place), 40, 32, 24);
        Due.answers("one step", place -> m.riverAt(3, place), 1, 0);
    }

    @Holds(promise = 12, says = "Throws `IndexOutOfBoundsException` if there is no such river")
    static void riverAtKnowsNoRiverOutside() {
        Due.outside("riverAt, of none", Due.INDEX, MapScales::new, (m, river) -> m.riverAt(river, 0), -1, 0);
        Due.outside("riverAt, of two", Due.INDEX, AskBounds::riverMap, (m, river) -> m.riverAt(river, 0), -1, 2);
        Due.outside("riverAt, of four", Due.INDEX, AskBounds::fourRivers, (m, river) -> m.riverAt(river, 0), -1, 4);
    }

    @Holds(promise = 12, says = "Throws `NoSuchElementException` if there is no such place")
    static void riverAtKnowsNoPlaceOutside() {
        Due.outside("riverAt, twelve steps", Due.ELEMENT, AskBounds::riverMap, (m, place) -> m.riverAt(0, place), -1, 13);
        Due.outside("riverAt, one step", Due.ELEMENT, AskBounds::riverMap, (m, place) -> m.riverAt(1, place), -1, 2);
    }

    @Holds(promise = 12, says = "If several exceptions apply, the one that is documented first is thrown.")
    static void riverAtMissesTheRiverFirst() {
        Due.fails("riverAt(0, 0)", Due.INDEX, () -> new MapScales().riverAt(0, 0));
        Due.fails("riverAt(2, 13)", Due.INDEX, () -> riverMap().riverAt(2, 13));
        Due.fails("riverAt(-1, -1)", Due.INDEX, () -> riverMap().riverAt(-1, -1));
    }

    // ---- promise 13: dragonOf

    @Holds(promise = 13, says = "`what`: 0 for its cell, 1 for its price, 2 for the realm that paid")
    static void dragonOfTellsTheLowestAndTheHighest() {
        MapScales m = dragonMap();
        Due.answers("the first one", what -> m.dragonOf(0, what), 0, 1, 0);
        Due.answers("the second one", what -> m.dragonOf(1, what), 63, 50, 2);
        Due.answers("the last one", what -> m.dragonOf(2, what), 3, 20, 3);
    }

    @Holds(promise = 13, says = "Throws `IndexOutOfBoundsException` if there is no such dragon")
    static void dragonOfKnowsNoDragonOutside() {
        Due.outside("dragonOf, of none", Due.INDEX, MapScales::new, (m, dragon) -> m.dragonOf(dragon, 0), -1, 0);
        Due.outside("dragonOf, of three", Due.INDEX, AskBounds::dragonMap, (m, dragon) -> m.dragonOf(dragon, 2), -1, 3);
        MapScales full = dragonMap();
        full.paint(8, 1);
        full.paint(9, 1);
        full.dragon(8, 2);
        full.dragon(9, 3);
        Due.is("the last of five", 3, () -> full.dragonOf(4, 1));
        Due.fails("behind five", Due.INDEX, () -> full.dragonOf(5, 1));
    }

    @Holds(promise = 13, says = "Throws `IllegalArgumentException` if what is not 0 to 2")
    static void dragonOfHasNoOtherNumbers() {
        Due.outside("dragonOf(0, what)", Due.ARGUMENT, AskBounds::dragonMap, (m, what) -> m.dragonOf(0, what), -1, 3);
    }

    @Holds(promise = 13, says = "If several exceptions apply, the one that is documented first is thrown.")
    static void dragonOfMissesTheDragonFirst() {
        Due.fails("dragonOf(0, 3)", Due.INDEX, () -> new MapScales().dragonOf(0, 3));
        Due.fails("dragonOf(-1, -1)", Due.INDEX, () -> dragonMap().dragonOf(-1, -1));
    }

    // ---- promises 14 and 15: weight, weightAgain

    /** The lightest river, the heaviest one, and others whose cells and steps lie at edges. */
    private static void weighsAsDue(boolean isAgain) {
        weighs(isAgain, 1 + 1, 63, "n", "ab");
        weighs(isAgain, 13 * 2 + 12 * 3, 0, "ewewewewewew", "ab");
        weighs(isAgain, 13 * 2, 0, "ewewewewewew", "aa");
        weighs(isAgain, 13, 8, "ewewewewewew", "aa");
        weighs(isAgain, 2 + 2 + 3, 2, "e", "..cd");
        weighs(isAgain, 1 + 2 + 3, 1, "e", "..d");
        weighs(isAgain, 2 + 1 + 3, 2, "w", "..d");
    }

    private static void weighs(boolean isAgain, int want, int cell, String steps, String row) {
        MapScales m = Due.map(row);
        Due.drawRiver(m, cell, steps, 1);
        Due.is(steps + " from " + cell + " in " + row, want, () -> isAgain ? m.weightAgain(0) : m.weight(0));
    }

    @Holds(promise = 14, says = "Returns the weight of a river: cell by cell.")
    static void weightOfTheLightestAndTheHeaviest() {
        weighsAsDue(false);
    }

    @Holds(promise = 14, says = "The weight of a river is 2 for each of its cells that belongs to a realm, 1 for each other one, "
            + "and 3 for each step that crosses a border.")
    static void weightOfCellsAndCrossings() {
        MapScales m = Due.map("aab.cc");
        Due.drawRiver(m, 0, "eeeee", 1);
        Due.drawRiver(m, 5, "wwwww", 1);
        Due.is("eastward", 5 * 2 + 1 + 3 * 3, () -> m.weight(0));
        Due.is("westward", 5 * 2 + 1 + 3 * 3, () -> m.weight(1));
    }

    @Holds(promise = 14, says = "A river can come to a cell several times, which counts each time.")
    static void weightCountsACellEachTime() {
        MapScales m = Due.map("a");
        Due.drawRiver(m, 0, "ewe", 1);
        Due.is("weight", 2 * 2 + 2 + 3 * 3, () -> m.weight(0));
    }

    @Holds(promise = 14, says = "Throws `IndexOutOfBoundsException` if there is no such river")
    static void weightKnowsNoRiverOutside() {
        Due.outside("weight, of none", Due.INDEX, MapScales::new, MapScales::weight, -1, 0);
        Due.outside("weight, of two", Due.INDEX, AskBounds::riverMap, MapScales::weight, -1, 2);
        Due.outside("weight, of four", Due.INDEX, AskBounds::fourRivers, MapScales::weight, -1, 4);
    }

    @Holds(promise = 15, says = "Returns the same by a second way: realm by realm, by how many cells of it each has.")
    static void weightAgainOfTheLightestAndTheHeaviest() {
        weighsAsDue(true);
        MapScales m = Due.map("abcd");
        Due.drawRiver(m, 0, "eeees", 1);
        Due.is("a cell of each realm, and two of none", 4 * 2 + 2 + 4 * 3, () -> m.weightAgain(0));
    }

    @Holds(promise = 15, says = "A river can come to a cell several times, which counts each time.")
    static void weightAgainCountsACellEachTime() {
        MapScales m = Due.map("a");
        Due.drawRiver(m, 0, "ewe", 1);
        Due.is("weightAgain", 2 * 2 + 2 + 3 * 3, () -> m.weightAgain(0));
    }

    @Holds(promise = 15, says = "Throws `IndexOutOfBoundsException` if there is no such river")
    static void weightAgainKnowsNoRiverOutside() {
        Due.outside("weightAgain, of none", Due.INDEX, MapScales::new, MapScales::weightAgain, -1, 0);
        Due.outside("weightAgain, of two", Due.INDEX, AskBounds::riverMap, MapScales::weightAgain, -1, 2);
        Due.outside("weightAgain, of four", Due.INDEX, AskBounds::fourRivers, MapScales::weightAgain, -1, 4);
    }

    // ---- promise 16: border

    @Holds(promise = 16, says = "Returns how long the border between two realms is.")
    static void borderIsTheSameFromBothSides() {
        MapScales m = Due.map("aab", "abb", "bcd");
        int[][] lengths = {{0, 4, 0, 0}, {4, 0, 2, 1}, {0, 2, 0, 1}, {0, 1, 1, 0}};
        for (int one = 0; one < 4; one++) {
            for (int other = 0; other < 4; other++) {
                int a = one;
                int b = other;
                Due.is("border(" + a + ", " + b + ")", lengths[a][b], () -> m.border(a, b));
            }
        }
    }

    @Holds(promise = 16, says = "Returns how many pairs of cells beside each other there are, one of each realm")
    static void borderOfNoPairsAndOfMost() {
        Due.is("no cells", 0, () -> new MapScales().border(0, 1));
        Due.is("cells of one alone", 0, () -> Due.map(ALL_OF_D).border(3, 0));
        Due.is("all pairs of the map", 112, () -> Due.map(BOARD).border(0, 1));
        Due.is("cornerwise", 0, () -> Due.map("a", ".b").border(0, 1));
        Due.is("with none between", 0, () -> Due.map("a.b").border(0, 1));
        Due.is("in the last column", 1, () -> Due.map(".......a", ".......b").border(0, 1));
        Due.is("in the last row", 1, () -> Due.map("", "", "", "", "", "", "", "......ab").border(1, 0));
    }

    @Holds(promise = 16, says = "Two cells are beside each other if they are next to each other in a row or a column.")
    static void borderKnowsNoWayRoundTheMap() {
        Due.is("the row behind", 0, () -> Due.map(".......a", "b").border(0, 1));
        Due.is("one row", 0, () -> Due.map("a......b").border(0, 1));
        Due.is("one column", 0, () -> Due.map("a", "", "", "", "", "", "", "b").border(0, 1));
        Due.is("the corners", 0, () -> Due.map("a", "", "", "", "", "", "", ".......b").border(0, 1));
    }

    @Holds(promise = 16, says = "0 for one and the same.")
    static void borderWithItselfIsNone() {
        MapScales m = Due.map("aa", "aa");
        Due.alike("border with itself of", 0, 0, 3, realm -> m.border(realm, realm));
    }

    @Holds(promise = 16, says = "`other`: the other one, possibly the same")
    static void borderTakesOneRealmTwice() {
        Due.is("the lowest, without cells", 0, () -> new MapScales().border(0, 0));
        Due.is("the highest, with all cells", 0, () -> Due.map(ALL_OF_D).border(3, 3));
        Due.is("in two parts beside another one", 0, () -> Due.map("dcd").border(3, 3));
        Due.is("the other one beside it", 2, () -> Due.map("dcd").border(3, 2));
    }

    @Holds(promise = 16, says = "Throws `IndexOutOfBoundsException` if there is no such realm, for either")
    static void borderKnowsNoRealmOutside() {
        Due.outside("border(one, 0)", Due.INDEX, () -> Due.map("ab"), (m, one) -> m.border(one, 0), -1, 4);
        Due.outside("border(0, other)", Due.INDEX, () -> Due.map("ab"), (m, other) -> m.border(0, other), -1, 4);
        Due.outside("border(same, same)", Due.INDEX, () -> Due.map("ab"), (m, same) -> m.border(same, same), -1, 4);
    }

    // ---- promises 17 and 18: around, aroundAgain

    /** The borders of a realm that has no cell, one, all and every second one, and of cells at the edges. */
    private static void aroundIsAsDue(boolean isAgain) {
        for (int cell : new int[] {0, 7, 56, 63, 3, 27}) {
            around(isAgain, 4, oneCell(cell), 2);
        }
        around(isAgain, 0, new MapScales(), 2);
        around(isAgain, 32, Due.map(ALL_OF_D), 3);
        around(isAgain, 0, Due.map(ALL_OF_D), 0);
        around(isAgain, 128, Due.map(BOARD), 0);
        around(isAgain, 128, Due.map(BOARD), 1);
        around(isAgain, 6, Due.map("", "...cc"), 2);
        around(isAgain, 6, Due.map("", "...c", "...c"), 2);
        around(isAgain, 8, Due.map("", "...c", "....c"), 2);
        around(isAgain, 16, Due.map("", "...ccc", "...c.c", "...ccc"), 2);
        around(isAgain, 16, Due.map("", "...ccc", "...cac", "...ccc"), 2);
    }

    private static void aroundKnowsNoWayRound(boolean isAgain) {
        around(isAgain, 8, Due.map(".......c", "c"), 2);
        around(isAgain, 8, Due.map("c......c"), 2);
        around(isAgain, 8, Due.map("c", "", "", "", "", "", "", "c"), 2);
        around(isAgain, 18, Due.map("cccccccc"), 2);
    }

    private static void around(boolean isAgain, int want, MapScales m, int realm) {
        Due.is("around, again " + isAgain, want, () -> isAgain ? m.aroundAgain(realm) : m.around(realm));
    }

    @Holds(promise = 17, says = "Returns how long the border of a realm is, the edge of the map included: side by side.")
    static void aroundIncludesTheEdge() {
        around(false, 32, Due.map(ALL_OF_D), 3);
        around(false, 4, oneCell(0), 2);
        around(false, 4, oneCell(63), 2);
        around(false, 6, Due.map("cc"), 2);
    }

    @Holds(promise = 17, says = "Returns how many sides of its cells have no cell of it beside them.")
    static void aroundCountsSides() {
        aroundIsAsDue(false);
    }

    @Holds(promise = 17, says = "Two cells are beside each other if they are next to each other in a row or a column.")
    static void aroundKnowsNoWayRoundTheMap() {
        aroundKnowsNoWayRound(false);
    }

    @Holds(promise = 17, says = "Throws `IndexOutOfBoundsException` if there is no such realm")
    static void aroundKnowsNoRealmOutside() {
        Due.outside("around", Due.INDEX, () -> Due.map("abcd"), MapScales::around, -1, 4);
    }

    @Holds(promise = 18, says = "Returns the same by a second way: four for each cell, less two for each pair of its cells "
            + "beside each other.")
    static void aroundAgainCountsPairs() {
        aroundIsAsDue(true);
    }

    @Holds(promise = 18, says = "Two cells are beside each other if they are next to each other in a row or a column.")
    static void aroundAgainKnowsNoWayRoundTheMap() {
        aroundKnowsNoWayRound(true);
    }

    @Holds(promise = 18, says = "Throws `IndexOutOfBoundsException` if there is no such realm")
    static void aroundAgainKnowsNoRealmOutside() {
        Due.outside("aroundAgain", Due.INDEX, () -> Due.map("abcd"), MapScales::aroundAgain, -1, 4);
    }

    // ---- promises 19 and 20: parts, partsAgain

    private static void partsAreAsDue(boolean isAgain) {
        parts(isAgain, 0, new MapScales(), 0);
        parts(isAgain, 0, Due.map(ALL_OF_D), 2);
        parts(isAgain, 1, Due.map(ALL_OF_D), 3);
        for (int cell : new int[] {0, 7, 56, 63, 27}) {
            parts(isAgain, 1, oneCell(cell), 2);
        }
        parts(isAgain, 32, Due.map(BOARD), 0);
        parts(isAgain, 32, Due.map(BOARD), 1);
        parts(isAgain, 2, Due.map("c", ".c"), 2);
        parts(isAgain, 1, Due.map("c", "cc"), 2);
        parts(isAgain, 2, Due.map("c.c", "cbc", "c.c"), 2);
        parts(isAgain, 1, Due.map("c.c", "ccc", "c.c"), 2);
        String all = "cccccccc";
        parts(isAgain, 1, Due.map(all, ".......c", all, "c", all, ".......c", all, "c"), 2);
        parts(isAgain, 1, Due.map("c.c.c.c.", "c.c.c.c.", "ccc.ccc.", "..c...c.",
                "..ccccc.", "..c...c.", "ccc.ccc.", "c.c.c.c."), 2);
    }

    private static void partsKnowNoWayRound(boolean isAgain) {
        parts(isAgain, 2, Due.map(".......c", "c"), 2);
        parts(isAgain, 2, Due.map("c......c"), 2);
        parts(isAgain, 2, Due.map("c", "", "", "", "", "", "", "c"), 2);
        parts(isAgain, 4, Due.map("c......c", "", "", "", "", "", "", "c......c"), 2);
    }

    private static void parts(boolean isAgain, int want, MapScales m, int realm) {
        Due.is("parts, again " + isAgain, want, () -> isAgain ? m.partsAgain(realm) : m.parts(realm));
    }

    @Holds(promise = 19, says = "Returns in how many parts a realm is: cells beside each other are in one part; "
            + "found by going from cell to cell.")
    static void partsOfNoCellOneAndAll() {
        partsAreAsDue(false);
    }

    @Holds(promise = 19, says = "Two cells are beside each other if they are next to each other in a row or a column.")
    static void partsKnowNoWayRoundTheMap() {
        partsKnowNoWayRound(false);
    }

    @Holds(promise = 19, says = "Throws `IndexOutOfBoundsException` if there is no such realm")
    static void partsKnowNoRealmOutside() {
        Due.outside("parts", Due.INDEX, () -> Due.map("abcd"), MapScales::parts, -1, 4);
    }

    @Holds(promise = 20, says = "Returns the same by a second way: by joining cells beside each other, pair by pair.")
    static void partsAgainOfNoCellOneAndAll() {
        partsAreAsDue(true);
    }

    @Holds(promise = 20, says = "Two cells are beside each other if they are next to each other in a row or a column.")
    static void partsAgainKnowNoWayRoundTheMap() {
        partsKnowNoWayRound(true);
    }

    @Holds(promise = 20, says = "Throws `IndexOutOfBoundsException` if there is no such realm")
    static void partsAgainKnowNoRealmOutside() {
        Due.outside("partsAgain", Due.INDEX, () -> Due.map("abcd"), MapScales::partsAgain, -1, 4);
    }

    // ---- promise 21: couldShave

    @Holds(promise = 21, says = "Tells whether a border could be shaved so.")
    static void couldShaveTellsWhereItIsRefused() {
        MapScales m = Due.map("abb");
        Due.is("another one's, beside", true, () -> m.couldShave(1, 0));
        Due.is("reason 1", false, () -> m.couldShave(1, 1));
        Due.is("cause 3", false, () -> m.couldShave(3, 1));
        Due.is("cause 4", false, () -> m.couldShave(2, 0));
        Due.is("cause 4, no cell of the realm at all", false, () -> m.couldShave(1, 3));
        Due.is("cause 5", false, () -> m.couldShave(0, 1));
        Due.is("the first cell", true, () -> Due.map("bab").couldShave(0, 0));
        Due.is("the last cell", true, () -> Due.map("b", "", "", "", "", "", "", "......ab").couldShave(63, 0));
    }

    @Holds(promise = 21, says = "A border can be shaved for a realm at a cell that belongs to another realm, has a cell of the "
            + "realm beside it, and is not the only cell of its own one.")
    static void couldShaveLooksToFourSides() {
        for (int beside : new int[] {19, 28, 35, 26, 18, 20, 34, 36, 25, 29, 11, 43}) {
            MapScales m = Due.map("b");
            m.paint(27, 1);
            m.paint(beside, 0);
            boolean isBeside = beside == 19 || beside == 28 || beside == 35 || beside == 26;
            Due.is("from " + beside, isBeside, () -> m.couldShave(27, 0));
        }
        MapScales m = Due.map("abb");
        m.paint(2, -1);
        Due.is("one cell of two is left", false, () -> m.couldShave(1, 0));
        m.paint(63, 1);
        Due.is("two again", true, () -> m.couldShave(1, 0));
    }

    @Holds(promise = 21, says = "Two cells are beside each other if they are next to each other in a row or a column.")
    static void couldShaveKnowsNoWayRoundTheMap() {
        for (int[] end : new int[][] {{7, 8}, {8, 7}, {0, 56}, {56, 0}, {0, 7}, {7, 0}, {0, 63}, {63, 0}}) {
            MapScales m = new MapScales();
            m.paint(27, 1);
            m.paint(end[0], 1);
            m.paint(end[1], 0);
            Due.is(end[1] + " is not beside " + end[0], false, () -> m.couldShave(end[0], 0));
        }
    }

    @Holds(promise = 21, says = "Methods whose documentation does not mention a change only answer a question.")
    static void couldShaveKeepsNoReason() {
        MapScales m = Due.map("abb");
        String before = Due.whole(m);
        for (int cell = 0; cell < 4; cell++) {
            for (int realm = 0; realm < 4; realm++) {
                m.couldShave(cell, realm);
            }
        }
        Due.is("all is as before", before, () -> Due.whole(m));
    }

    @Holds(promise = 21, says = "Throws `IndexOutOfBoundsException` if there is no such cell")
    static void couldShaveKnowsNoCellOutside() {
        Due.outside("couldShave cell", Due.INDEX, () -> Due.map("abb"), (m, cell) -> m.couldShave(cell, 0), -1, 64);
    }

    @Holds(promise = 21, says = "Throws `IndexOutOfBoundsException` if there is no such realm")
    static void couldShaveKnowsNoRealmOutside() {
        Due.outside("couldShave realm", Due.INDEX, () -> Due.map("abb"), (m, realm) -> m.couldShave(1, realm), -1, 4);
        Due.outside("couldShave realm, of none", Due.INDEX, MapScales::new, (m, realm) -> m.couldShave(1, realm), -1, 4);
    }

    // ---- promise 22: shavable

    @Holds(promise = 22, says = "Returns how many cells could be shaved for a realm.")
    static void shavableOfNoCellAndOfMost() {
        MapScales bare = new MapScales();
        Due.alike("a bare map, for", 0, 0, 3, bare::shavable);
        MapScales whole = Due.map(ALL_OF_D);
        Due.alike("a whole map, for", 0, 0, 3, whole::shavable);
        MapScales board = Due.map(BOARD);
        Due.answers("a board, for", board::shavable, 32, 32, 0, 0);
        MapScales two = Due.map("ab");
        Due.alike("two only cells, for", 0, 0, 3, two::shavable);
        MapScales ends = Due.map("bab", "", "", "", "", "", "", ".....bab");
        Due.answers("the first and the last cell, for", ends::shavable, 4, 2, 0, 0);
        MapScales corner = Due.map("a");
        for (int cell = 1; cell < 64; cell++) {
            corner.paint(cell, 3);
        }
        Due.answers("a corner, for", corner::shavable, 2, 0, 0, 0);
    }

    @Holds(promise = 22, says = "Methods whose documentation does not mention a change only answer a question.")
    static void shavableKeepsNoReason() {
        MapScales m = Due.map("abb");
        String before = Due.whole(m);
        Due.answers("shavable", m::shavable, 1, 0, 0, 0);
        Due.is("all is as before", before, () -> Due.whole(m));
    }

    @Holds(promise = 22, says = "Throws `IndexOutOfBoundsException` if there is no such realm")
    static void shavableKnowsNoRealmOutside() {
        Due.outside("shavable", Due.INDEX, () -> Due.map("abb"), MapScales::shavable, -1, 4);
    }
}

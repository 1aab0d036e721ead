/** Boundary cases of the promises 1 to 8: a new object, and what is painted, shaved, drawn and put. */
final class DrawBounds {
    private DrawBounds() {
    }

    private static MapScales shavableMap() {
        return Due.map("abb");
    }

    /** A map with two rivers. */
    private static MapScales riverMap() {
        MapScales m = new MapScales();
        Due.drawRiver(m, 0, "es", 2);
        Due.drawRiver(m, 63, "nw", 3);
        return m;
    }

    private static MapScales fourRivers() {
        MapScales m = riverMap();
        Due.drawRiver(m, 7, "sss", 4);
        Due.drawRiver(m, 56, "eeee", 5);
        return m;
    }

    /** A map with five dragons on the cells 0 to 4, with the prices 10 to 14, paid by a, b, c, d and a. */
    private static MapScales fiveDragons() {
        MapScales m = Due.map("abcda");
        for (int cell = 0; cell < 5; cell++) {
            m.dragon(cell, 10 + cell);
        }
        return m;
    }

    /** The dragons of fiveDragons without one. */
    private static void dragonsAreWithout(MapScales m, int gone) {
        Due.is("dragons", 4, () -> m.account(2));
        Due.fails("dragonOf(4, 0)", Due.INDEX, () -> m.dragonOf(4, 0));
        for (int dragon = 0; dragon < 4; dragon++) {
            int old = dragon < gone ? dragon : dragon + 1;
            int at = dragon;
            Due.answers("dragonOf(" + at + ")", what -> m.dragonOf(at, what), old, 10 + old, old % 4);
        }
    }

    // ---- promise 1: a new object

    @Holds(promise = 1, says = "Creates a map whose cells belong to no realms, without rivers and dragons.")
    static void newMapIsBare() {
        MapScales other = Due.map("abcd");
        other.dragon(0, 50);
        Due.drawRiver(other, 0, "e", 9);
        MapScales m = new MapScales();
        Due.alike("realmAt", -1, 0, 63, m::realmAt);
        Due.is("cells", 0, () -> m.account(0));
        Due.is("rivers", 0, () -> m.account(1));
        Due.is("dragons", 0, () -> m.account(2));
        Due.fails("riverOf(0, 0)", Due.INDEX, () -> m.riverOf(0, 0));
        Due.fails("dragonOf(0, 0)", Due.INDEX, () -> m.dragonOf(0, 0));
    }

    @Holds(promise = 1, says = "Each realm has 100 coins at first.")
    static void newRealmsHaveHundredCoins() {
        MapScales m = new MapScales();
        Due.alike("coins of", 100, 0, 3, realm -> m.realmOf(realm, 1));
    }

    @Holds(promise = 1, says = "the scale, from 1 to 9, at first 1.")
    static void newScaleIsOne() {
        MapScales m = new MapScales();
        Due.is("the scale", 1, () -> m.account(4));
        Due.drawRiver(m, 0, "eee", 3);
        Due.is("three steps", 3, () -> m.riverOf(0, 4));
    }

    @Holds(promise = 1, says = "Each cell belongs to one of the realms 0 to 3, or to none, as at first.")
    static void everyCellTakesEveryRealm() {
        MapScales m = new MapScales();
        for (int cell : new int[] {0, 7, 8, 55, 56, 63}) {
            Due.is("at first", -1, () -> m.realmAt(cell));
            for (int realm : new int[] {0, 1, 2, 3, -1}) {
                m.paint(cell, realm);
                Due.is("realmAt " + cell, realm, () -> m.realmAt(cell));
            }
        }
    }

    @Holds(promise = 1, says = "It has 8 rows of 8 cells, numbered row by row from 0; the cell is 8 times its row, and its "
            + "column.")
    static void mapHasEightRowsOfEightCells() {
        MapScales m = Due.map("a......b", "........", "........", "..c.....", "........", "........", "........", "d......a");
        Due.is("row 0, column 0", 0, () -> m.realmAt(0));
        Due.is("row 0, column 7", 1, () -> m.realmAt(7));
        Due.is("row 3, column 2", 2, () -> m.realmAt(26));
        Due.is("row 7, column 0", 3, () -> m.realmAt(56));
        Due.is("row 7, column 7", 0, () -> m.realmAt(63));
        m.row(3);
        Due.is("row 3", "..c.....", () -> Due.line(m, 8));
        m.row(7);
        Due.is("row 7", "d......a", () -> Due.line(m, 8));
    }

    @Holds(promise = 1, says = "An object is used for at most 512 calls after it has been made")
    static void fiveHundredAndTwelveCallsAnswer() {
        MapScales m = new MapScales();
        for (int call = 1; call <= 256; call++) {
            int realm = call % 4;
            Due.is("call " + (2 * call - 1), call == 1 ? -1 : (call + 3) % 4, () -> m.paint(0, realm));
            Due.is("call " + 2 * call, realm, () -> m.realmAt(0));
        }
        MapScales shaved = Due.map("abb");
        for (int call = 4; call < 512; call++) {
            int realm = call % 2;
            Due.is("call " + call, 1 - realm, () -> shaved.shave(1, realm));
        }
        Due.is("call 512", 508, () -> shaved.account(5));
    }

    // ---- promise 2: paint

    @Holds(promise = 2, says = "Paints a cell.")
    static void paintPaintsThatCellAlone() {
        for (int cell : new int[] {0, 7, 8, 63}) {
            MapScales m = new MapScales();
            m.paint(cell, 2);
            Due.alike("ahead of " + cell, -1, 0, cell - 1, m::realmAt);
            Due.is("realmAt " + cell, 2, () -> m.realmAt(cell));
            Due.alike("behind " + cell, -1, cell + 1, 63, m::realmAt);
        }
    }

    @Holds(promise = 2, says = "`realm`: the realm to which it belongs then, -1 for none")
    static void paintTakesEveryRealmAndNone() {
        MapScales m = new MapScales();
        for (int realm : new int[] {0, 3, -1, 2, 1, -1}) {
            m.paint(20, realm);
            Due.is("painted", realm, () -> m.realmAt(20));
        }
    }

    @Holds(promise = 2, says = "Returns the realm before, -1 for none.")
    static void paintReturnsTheRealmBefore() {
        MapScales m = new MapScales();
        Due.is("none before", -1, () -> m.paint(20, 0));
        Due.is("the lowest before", 0, () -> m.paint(20, 3));
        Due.is("the highest before", 3, () -> m.paint(20, -1));
        Due.is("none again", -1, () -> m.paint(20, 3));
    }

    @Holds(promise = 2, says = "Throws `IndexOutOfBoundsException` if there is no such cell")
    static void paintKnowsNoCellOutside() {
        Due.outside("paint cell", Due.INDEX, MapScales::new, (m, cell) -> m.paint(cell, 1), -1, 64);
        MapScales m = new MapScales();
        Due.is("the first cell", -1, () -> m.paint(0, 1));
        Due.is("the last cell", -1, () -> m.paint(63, 1));
    }

    @Holds(promise = 2, says = "Throws `IllegalArgumentException` if there is no such realm")
    static void paintKnowsNoRealmOutside() {
        Due.outside("paint realm", Due.ARGUMENT, MapScales::new, (m, realm) -> m.paint(0, realm), -2, 4);
        MapScales m = new MapScales();
        Due.is("the highest realm", -1, () -> m.paint(0, 3));
        Due.is("none", 3, () -> m.paint(0, -1));
    }

    @Holds(promise = 2, says = "If several exceptions apply, the one that is documented first is thrown.")
    static void paintMissesTheCellFirst() {
        MapScales m = new MapScales();
        Due.keeps(m, "paint(64, 4)", Due.INDEX, () -> m.paint(64, 4));
        Due.keeps(m, "paint(-1, -2)", Due.INDEX, () -> m.paint(-1, -2));
    }

    @Holds(promise = 2, says = "Throws `UnsupportedOperationException` if it is refused for the reason 1")
    static void paintIsRefusedIfItIsSoAlready() {
        MapScales m = new MapScales();
        Due.refused(m, "none to none", () -> m.paint(9, -1), 1, -1);
        for (int realm = 0; realm < 4; realm++) {
            MapScales painted = new MapScales();
            int same = realm;
            painted.paint(9, same);
            Due.refused(painted, "the same realm", () -> painted.paint(9, same), 1, same);
        }
    }

    @Holds(promise = 2, says = "the reason is then kept")
    static void paintKeepsTheReason() {
        MapScales m = new MapScales();
        Due.reasonsAre(m, "none at first");
        Due.fails("paint(9, -1)", Due.REFUSED, () -> m.paint(9, -1));
        Due.reasonsAre(m, "kept", 1, -1);
        m.paint(9, 2);
        Due.fails("paint(64, 2)", Due.INDEX, () -> m.paint(64, 2));
        Due.reasonsAre(m, "still kept", 1, -1);
        Due.fails("paint(9, 2)", Due.REFUSED, () -> m.paint(9, 2));
        Due.reasonsAre(m, "the next one", 1, 2);
    }

    @Holds(promise = 2, says = "A cell that is painted can be one with a dragon, or the only cell of its realm.")
    static void paintTakesDragonsCellAndOnlyCell() {
        MapScales m = Due.map("aab");
        m.dragon(0, 10);
        Due.is("a cell with a dragon", 0, () -> m.paint(0, 3));
        Due.is("the only cell of its realm", 1, () -> m.paint(2, 3));
        Due.is("no cell is left", 0, () -> m.realmOf(1, 0));
        MapScales both = Due.map("c");
        both.dragon(0, 10);
        Due.is("both", 2, () -> both.paint(0, -1));
        Due.is("no cell is left", 0, () -> both.account(0));
    }

    @Holds(promise = 2, says = "When a cell with a dragon comes to belong to another realm, or to none, the dragon is refunded")
    static void paintRefundsForAnotherRealmAndForNone() {
        for (int realm : new int[] {1, -1}) {
            MapScales m = Due.map("ab");
            m.dragon(0, 50);
            m.paint(0, realm);
            Due.is("refunded", 1, () -> m.account(6));
            Due.is("scared", 0, () -> m.account(7));
            Due.is("coins lost", 0, () -> m.account(8));
        }
        MapScales m = Due.map("ab");
        m.dragon(0, 50);
        m.paint(1, 0);
        m.paint(2, 0);
        Due.fails("refused", Due.REFUSED, () -> m.paint(0, 0));
        Due.is("other cells, or a refusal, refund none", 0, () -> m.account(6));
        Due.is("the dragon is there", 1, () -> m.account(2));
    }

    @Holds(promise = 2, says = "the realm that paid gets the price back")
    static void paintPaysThePriceBack() {
        for (int price : new int[] {1, 50}) {
            MapScales m = Due.map("aab");
            m.dragon(0, price);
            m.dragon(1, 20);
            m.dragon(2, 30);
            m.paint(0, 1);
            Due.answers("coins of", realm -> m.realmOf(realm, 1), 80, 70, 100, 100);
        }
    }

    @Holds(promise = 2, says = "and the dragon is gone; the numbers of the later ones become 1 less.")
    static void paintNumbersTheLaterDragonsAnew() {
        for (int gone = 0; gone < 5; gone++) {
            MapScales m = fiveDragons();
            m.paint(gone, (gone + 1) % 4);
            dragonsAreWithout(m, gone);
        }
        MapScales last = Due.map("a");
        last.dragon(0, 1);
        last.paint(0, -1);
        Due.is("none is left", 0, () -> last.account(2));
    }

    // ---- promise 3: shave

    @Holds(promise = 3, says = "Shaves a border: a cell goes from its realm to another one.")
    static void shaveMovesThatCellAlone() {
        MapScales m = shavableMap();
        m.shave(1, 0);
        Due.answers("realmAt", m::realmAt, 0, 0, 1, -1, -1);
        Due.is("refused", "throws.UnsupportedOperationException", () -> m.shave(2, 0));
        Due.answers("a refusal moves none", m::realmAt, 0, 0, 1, -1, -1);
    }

    @Holds(promise = 3, says = "`realm`: the realm to which it belongs then")
    static void shaveTakesTheLowestAndTheHighestRealm() {
        MapScales lowest = Due.map("add");
        lowest.shave(1, 0);
        Due.is("the lowest", 0, () -> lowest.realmAt(1));
        MapScales highest = Due.map("daa");
        highest.shave(1, 3);
        Due.is("the highest", 3, () -> highest.realmAt(1));
    }

    @Holds(promise = 3, says = "Returns the realm before.")
    static void shaveReturnsTheRealmBefore() {
        Due.is("the highest", 3, () -> Due.map("add").shave(1, 0));
        Due.is("the lowest", 0, () -> Due.map("daa").shave(1, 3));
    }

    @Holds(promise = 3, says = "Throws `IndexOutOfBoundsException` if there is no such cell")
    static void shaveKnowsNoCellOutside() {
        Due.outside("shave cell", Due.INDEX, DrawBounds::shavableMap, (m, cell) -> m.shave(cell, 0), -1, 64);
        Due.outside("shave cell, for none", Due.INDEX, MapScales::new, (m, cell) -> m.shave(cell, -1), -1, 64);
        Due.is("the first cell", 1, () -> Due.map("bab").shave(0, 0));
        MapScales m = Due.map("b");
        m.paint(63, 1);
        m.paint(62, 0);
        Due.is("the last cell", 1, () -> m.shave(63, 0));
    }

    @Holds(promise = 3, says = "Throws `IndexOutOfBoundsException` if there is no such realm")
    static void shaveKnowsNoRealmOutside() {
        Due.outside("shave realm", Due.INDEX, DrawBounds::shavableMap, (m, realm) -> m.shave(1, realm), -1, 4);
        Due.outside("shave realm, of none", Due.INDEX, MapScales::new, (m, realm) -> m.shave(1, realm), -1, 4);
    }

    @Holds(promise = 3, says = "if it is refused for the reason 1 or 2")
    static void shaveIsRefusedIfItIsSoAlready() {
        for (int realm = 0; realm < 4; realm++) {
            MapScales m = new MapScales();
            int same = realm;
            m.paint(1, same);
            Due.refused(m, "its only cell, none beside", () -> m.shave(1, same), 1, same);
            m.paint(2, same);
            Due.refused(m, "one beside", () -> m.shave(1, same), 1, same);
        }
    }

    @Holds(promise = 3, says = "with the cause 3, 4 or 5")
    static void shaveIsRefusedForCellsOfNone() {
        MapScales m = shavableMap();
        Due.refused(m, "one beside", () -> m.shave(3, 1), 2, 3, 3, 3);
        Due.refused(m, "none beside, 3 ahead of 4", () -> m.shave(63, 1), 2, 63, 3, 63);
        MapScales bare = new MapScales();
        Due.refused(bare, "a bare map", () -> bare.shave(0, 0), 2, 0, 3, 0);
    }

    @Holds(promise = 3, says = "with the cause 3, 4 or 5")
    static void shaveIsRefusedIfNoneIsBeside() {
        MapScales m = shavableMap();
        Due.refused(m, "one cell too far", () -> m.shave(2, 0), 2, 2, 4, 0);
        Due.refused(m, "no cell of the realm at all", () -> m.shave(1, 3), 2, 1, 4, 3);
        Due.refused(m, "the only cell too, 4 ahead of 5", () -> m.shave(0, 2), 2, 0, 4, 2);
    }

    @Holds(promise = 3, says = "with the cause 3, 4 or 5")
    static void shaveIsRefusedForTheOnlyCell() {
        MapScales m = shavableMap();
        Due.refused(m, "the only cell", () -> m.shave(0, 1), 2, 0, 5, 0);
        MapScales highest = Due.map("dc");
        Due.refused(highest, "the only cell", () -> highest.shave(0, 2), 2, 0, 5, 3);
    }

    @Holds(promise = 3, says = "the reason is then kept")
    static void shaveKeepsTheReason() {
        MapScales m = shavableMap();
        Due.fails("shave(0, 1)", Due.REFUSED, () -> m.shave(0, 1));
        m.shave(1, 0);
        Due.fails("shave(64, 1)", Due.INDEX, () -> m.shave(64, 1));
        Due.reasonsAre(m, "kept with its cause", 2, 0, 5, 0);
        Due.fails("shave(0, 0)", Due.REFUSED, () -> m.shave(0, 0));
        Due.reasonsAre(m, "the next one, without a cause", 1, 0);
    }

    @Holds(promise = 3, says = "has a cell of the realm beside it")
    static void shaveNeedsACellOnOneOfFourSides() {
        for (int beside : new int[] {19, 28, 35, 26}) {
            MapScales m = Due.map("b");
            m.paint(27, 1);
            m.paint(beside, 0);
            Due.is("beside " + beside, 1, () -> m.shave(27, 0));
        }
        for (int corner : new int[] {18, 20, 34, 36}) {
            MapScales m = Due.map("b");
            m.paint(27, 1);
            m.paint(corner, 0);
            Due.refused(m, "cornerwise " + corner, () -> m.shave(27, 0), 2, 27, 4, 0);
        }
    }

    @Holds(promise = 3, says = "Two cells are beside each other if they are next to each other in a row or a column.")
    static void shaveKnowsNoWayRoundTheMap() {
        int[][] ends = {{7, 8}, {8, 7}, {15, 16}, {55, 56}, {0, 56}, {56, 0}, {7, 63}, {63, 7}, {0, 7}, {7, 0}, {0, 63}, {63, 0}};
        for (int[] end : ends) {
            MapScales m = new MapScales();
            m.paint(27, 1);
            m.paint(end[0], 1);
            m.paint(end[1], 0);
            Due.refused(m, end[1] + " is not beside " + end[0], () -> m.shave(end[0], 0), 2, end[0], 4, 0);
        }
    }

    @Holds(promise = 3, says = "and is not the only cell of its own one.")
    static void shaveLeavesEachRealmItsLastCell() {
        MapScales m = Due.map("abb.....", "........", "b.......");
        Due.is("three cells", 1, () -> m.shave(1, 0));
        Due.is("two cells", 1, () -> m.shave(2, 0));
        m.paint(24, 0);
        Due.refused(m, "one cell", () -> m.shave(16, 0), 2, 16, 5, 1);
        m.paint(63, 1);
        Due.is("two again, far from each other", 1, () -> m.shave(16, 0));
    }

    @Holds(promise = 3, says = "A shaved border moves both realms.")
    static void shaveMovesBothRealms() {
        MapScales m = Due.map("abb");
        m.shave(1, 0);
        Due.answers("realmOf(0)", what -> m.realmOf(0, what), 2, 100, 0, 1, 0);
        Due.answers("realmOf(1)", what -> m.realmOf(1, what), 1, 100, 0, 0, 1);
        Due.fails("refused", Due.REFUSED, () -> m.shave(2, 0));
        Due.is("a refusal wins none", 1, () -> m.realmOf(0, 3));
        Due.is("a refusal loses none", 1, () -> m.realmOf(1, 4));
        Due.is("shaved", 1, () -> m.account(5));
    }

    @Holds(promise = 3, says = "the dragon is refunded: the realm that paid gets the price back, and the dragon is gone")
    static void shaveRefunds() {
        MapScales m = Due.map("abb");
        m.dragon(2, 7);
        m.dragon(1, 50);
        m.dragon(0, 9);
        Due.fails("refused", Due.REFUSED, () -> m.shave(0, 1));
        Due.is("a refusal refunds none", 3, () -> m.account(2));
        m.shave(1, 0);
        Due.answers("coins of", realm -> m.realmOf(realm, 1), 91, 93, 100, 100);
        Due.is("refunded", 1, () -> m.account(6));
        Due.answers("the first one", what -> m.dragonOf(0, what), 2, 7, 1);
        Due.answers("the later one", what -> m.dragonOf(1, what), 0, 9, 0);
        Due.is("two are left", 2, () -> m.account(2));
    }

    // ---- promise 4: scale

    @Holds(promise = 4, says = "Tells the scale of the map.")
    static void scaleTellsForAllRivers() {
        MapScales m = riverMap();
        m.scale(9);
        Due.is("the first river", 18, () -> m.riverOf(0, 4));
        Due.is("the last river", 18, () -> m.riverOf(1, 4));
        Due.drawRiver(m, 0, "e", 9);
        Due.is("a later one", 9, () -> m.riverOf(2, 4));
    }

    @Holds(promise = 4, says = "`miles`: how many miles a step is, 1 to 9")
    static void scaleTakesOneToNine() {
        MapScales m = new MapScales();
        for (int miles : new int[] {9, 8, 7, 6, 5, 4, 3, 2, 1}) {
            m.scale(miles);
            Due.is("the scale", miles, () -> m.account(4));
        }
    }

    @Holds(promise = 4, says = "Returns how many it was before.")
    static void scaleReturnsTheOneBefore() {
        MapScales m = new MapScales();
        Due.is("1 at first", 1, () -> m.scale(9));
        Due.is("the highest", 9, () -> m.scale(2));
        Due.is("another", 2, () -> m.scale(1));
    }

    @Holds(promise = 4, says = "Throws `IllegalArgumentException` if the number is out of range")
    static void scaleKnowsNoOther() {
        Due.outside("scale", Due.ARGUMENT, MapScales::new, MapScales::scale, 0, 10, -1);
    }

    @Holds(promise = 4, says = "Throws `UnsupportedOperationException` if it is refused for the reason 1")
    static void scaleIsRefusedIfItIsSoAlready() {
        MapScales m = new MapScales();
        Due.refused(m, "1 at first", () -> m.scale(1), 1, 1);
        m.scale(9);
        Due.refused(m, "9", () -> m.scale(9), 1, 9);
    }

    @Holds(promise = 4, says = "the reason is then kept")
    static void scaleKeepsTheReason() {
        MapScales m = new MapScales();
        Due.fails("scale(1)", Due.REFUSED, () -> m.scale(1));
        m.scale(5);
        Due.fails("scale(0)", Due.ARGUMENT, () -> m.scale(0));
        Due.reasonsAre(m, "kept", 1, 1);
        Due.fails("scale(5)", Due.REFUSED, () -> m.scale(5));
        Due.reasonsAre(m, "the next one", 1, 5);
    }

    // ---- promise 5: river

    @Holds(promise = 5, says = "Draws a river from a cell on.")
    static void riverStartsAtTheFirstAndTheLastCell() {
        MapScales m = riverMap();
        Due.answers("from the first cell", place -> m.riverAt(0, place), 0, 1, 9);
        Due.answers("from the last cell", place -> m.riverAt(1, place), 63, 55, 54);
    }

    @Holds(promise = 5, says = "\"n\" for the row ahead, \"e\" for the column behind, \"s\" for the row behind, "
            + "\"w\" for the column ahead.")
    static void riverGoesToFourSides() {
        MapScales m = new MapScales();
        int[] beside = {19, 28, 35, 26};
        for (int side = 0; side < 4; side++) {
            int river = side;
            Due.drawRiver(m, 27, "nesw".substring(side, side + 1), 1);
            Due.is("nesw " + side, beside[side], () -> m.riverOf(river, 2));
        }
    }

    @Holds(promise = 5, says = "Its steps are the input, which is empty afterwards")
    static void riverTakesTheWholeInputOnce() {
        MapScales m = new MapScales();
        Due.drawRiver(m, 0, "essw", 1);
        Due.is("steps", 4, () -> m.riverOf(0, 1));
        Due.is("the input is empty", 0, () -> m.account(9));
        Due.fails("no steps are left", Due.STATE, () -> m.river(0, 1));
        Due.is("a new one", 1, () -> m.append('s'));
        Due.is("river", 1, () -> m.river(0, 1));
        Due.is("its steps", 1, () -> m.riverOf(1, 1));
    }

    @Holds(promise = 5, says = "which is empty afterwards, whatever happens.")
    static void riverEmptiesTheInputWhateverHappens() {
        MapScales m = new MapScales();
        Due.type(m, "e");
        Due.fails("no such cell", Due.INDEX, () -> m.river(64, 1));
        Due.is("the input is empty", 0, () -> m.account(9));
        Due.type(m, "e");
        Due.fails("out of range", Due.ARGUMENT, () -> m.river(0, 100));
        Due.is("the input is empty", 0, () -> m.account(9));
        Due.type(m, "ex");
        Due.fails("no steps", Due.STATE, () -> m.river(0, 1));
        Due.is("the input is empty", 0, () -> m.account(9));
        Due.type(m, "ew".repeat(30));
        Due.fails("no steps, 60 characters", Due.STATE, () -> m.river(0, 1));
        Due.is("the input is empty", 0, () -> m.account(9));
        Due.type(m, "n");
        Due.fails("leaves the map", Due.REFUSED, () -> m.river(0, 1));
        Due.is("the input is empty", 0, () -> m.account(9));
        MapScales full = fourRivers();
        Due.type(full, "e");
        Due.fails("four are there", Due.REFUSED, () -> full.river(0, 1));
        Due.is("the input is empty", 0, () -> full.account(9));
    }

    @Holds(promise = 5, says = "`told`: how many miles it is told to be long, 0 to 99")
    static void riverTakesNoMilesAndNinetyNine() {
        MapScales m = new MapScales();
        Due.is("0", 0, () -> Due.drawRiver(m, 0, "e", 0));
        Due.is("99", 1, () -> Due.drawRiver(m, 0, "e", 99));
        Due.is("told", 0, () -> m.riverOf(0, 3));
        Due.is("told", 99, () -> m.riverOf(1, 3));
    }

    @Holds(promise = 5, says = "Returns the number of the river.")
    static void riverReturnsZeroToThree() {
        MapScales m = new MapScales();
        for (int river = 0; river < 4; river++) {
            Due.is("the number", river, () -> Due.drawRiver(m, 0, "e", 1));
        }
        m.drop(0);
        Due.is("the highest again", 3, () -> Due.drawRiver(m, 0, "e", 1));
    }

    @Holds(promise = 5, says = "Throws `IndexOutOfBoundsException` if there is no such cell")
    static void riverKnowsNoCellOutside() {
        Due.outside("river cell", Due.INDEX, DrawBounds::riverMap, (m, cell) -> Due.drawRiver(m, cell, "w", 1), -1, 64);
    }

    @Holds(promise = 5, says = "Throws `IllegalArgumentException` if the number is out of range")
    static void riverIsToldNothingElse() {
        Due.outside("river told", Due.ARGUMENT, DrawBounds::riverMap, (m, told) -> Due.drawRiver(m, 0, "e", told), -1, 100);
    }

    @Holds(promise = 5, says = "Throws `IllegalStateException` if the input is no steps")
    static void riverNeedsSteps() {
        String[] inputs = {"", "x", "nx", "xn", "n n", " n", "n ", "N", "n;", "n=1", "nsnsnsnsnsnsn", "r0:n=1", "ns".repeat(30)};
        for (String input : inputs) {
            MapScales m = riverMap();
            Due.keeps(m, "input " + input, Due.STATE, () -> Due.drawRiver(m, 27, input, 1));
        }
    }

    @Holds(promise = 5, says = "and with 1 to 12 steps, each to the cell beside it")
    static void riverHasOneToTwelveSteps() {
        for (int steps = 1; steps <= 12; steps++) {
            MapScales m = new MapScales();
            String input = "nsnsnsnsnsns".substring(0, steps);
            Due.is("river", 0, () -> Due.drawRiver(m, 27, input, 1));
            Due.is("steps", steps, () -> m.riverOf(0, 1));
            Due.is("the last cell", steps % 2 == 0 ? 27 : 19, () -> m.riverOf(0, 2));
        }
    }

    @Holds(promise = 5, says = "A river can come to a cell several times, which counts each time.")
    static void riverComesToACellAgain() {
        MapScales m = Due.map("a");
        Due.is("river", 0, () -> Due.drawRiver(m, 0, "ewew", 1));
        Due.answers("places", place -> m.riverAt(0, place), 0, 1, 0, 1, 0);
        Due.is("weight", 3 * 2 + 2 + 4 * 3, () -> m.weight(0));
    }

    @Holds(promise = 5, says = "Throws `UnsupportedOperationException` if it is refused for the reason 6 or 7")
    static void riverIsRefusedIfFourAreThere() {
        MapScales m = fourRivers();
        Due.refused(m, "a fifth one", () -> Due.drawRiver(m, 0, "e", 1), 6, 4);
        Due.refused(m, "6 ahead of 7", () -> Due.drawRiver(m, 0, "n", 1), 6, 4);
        m.drop(3);
        Due.is("there is room again", 3, () -> Due.drawRiver(m, 0, "e", 1));
    }

    @Holds(promise = 5, says = "At most 4 rivers are there, numbered from 0")
    static void fourRiversAreThere() {
        MapScales m = fourRivers();
        Due.is("four", 4, () -> m.account(1));
        Due.answers("told", river -> m.riverOf(river, 3), 2, 3, 4, 5);
        Due.fails("refused", Due.REFUSED, () -> Due.drawRiver(m, 0, "e", 1));
        Due.is("still four", 4, () -> m.account(1));
        Due.fails("riverOf(4, 3)", Due.INDEX, () -> m.riverOf(4, 3));
    }

    @Holds(promise = 5, says = "if it is refused for the reason 6 or 7")
    static void riverIsRefusedIfItLeavesTheMap() {
        int[][] edges = {{0, 7, 'n'}, {56, 63, 's'}};
        for (int[] edge : edges) {
            for (int cell : new int[] {edge[0], edge[0] + 3, edge[1]}) {
                MapScales m = new MapScales();
                Due.refused(m, "from " + cell, () -> Due.drawRiver(m, cell, "" + (char) edge[2], 1), 7, 0);
            }
        }
        for (int y : new int[] {0, 3, 7}) {
            MapScales west = new MapScales();
            Due.refused(west, "west of row " + y, () -> Due.drawRiver(west, 8 * y, "w", 1), 7, 0);
            MapScales east = new MapScales();
            Due.refused(east, "east of row " + y, () -> Due.drawRiver(east, 8 * y + 7, "e", 1), 7, 0);
        }
    }

    @Holds(promise = 5, says = "the river leaves the map: the first step by which it does, from 0")
    static void riverTellsTheFirstStepThatLeaves() {
        MapScales m = new MapScales();
        Due.refused(m, "by the last of twelve", () -> Due.drawRiver(m, 0, "ewewewewewen", 1), 7, 11);
        MapScales second = new MapScales();
        Due.refused(second, "by the second", () -> Due.drawRiver(second, 8, "nnn", 1), 7, 1);
        MapScales back = new MapScales();
        Due.refused(back, "and would come back", () -> Due.drawRiver(back, 7, "weewww", 1), 7, 2);
        MapScales first = new MapScales();
        Due.refused(first, "by the first", () -> Due.drawRiver(first, 63, "snne", 1), 7, 0);
    }

    @Holds(promise = 5, says = "the reason is then kept")
    static void riverKeepsTheReason() {
        MapScales m = fourRivers();
        Due.fails("a fifth one", Due.REFUSED, () -> Due.drawRiver(m, 0, "e", 1));
        m.drop(0);
        Due.fails("no steps", Due.STATE, () -> m.river(0, 1));
        Due.reasonsAre(m, "kept", 6, 4);
        Due.fails("leaves the map", Due.REFUSED, () -> Due.drawRiver(m, 0, "en", 1));
        Due.reasonsAre(m, "the next one", 7, 1);
    }

    @Holds(promise = 5, says = "If several exceptions apply, the one that is documented first is thrown.")
    static void riverMissesTheCellFirst() {
        MapScales all = fourRivers();
        Due.keeps(all, "cell, told, steps, refused", Due.INDEX, () -> Due.drawRiver(all, 64, "", 100));
        MapScales three = fourRivers();
        Due.keeps(three, "told, steps, refused", Due.ARGUMENT, () -> Due.drawRiver(three, 0, "x", -1));
        MapScales two = fourRivers();
        Due.keeps(two, "steps, refused", Due.STATE, () -> Due.drawRiver(two, 0, "nx", 1));
    }

    // ---- promise 6: drop

    @Holds(promise = 6, says = "Drops a river; the numbers of the later ones become 1 less.")
    static void dropNumbersTheLaterRiversAnew() {
        int[] first = {0, 63, 7, 56};
        int[] last = {9, 54, 31, 60};
        for (int gone = 0; gone < 4; gone++) {
            MapScales m = fourRivers();
            m.drop(gone);
            for (int river = 0; river < 3; river++) {
                int old = river < gone ? river : river + 1;
                int at = river;
                Due.is("first", first[old], () -> m.riverOf(at, 0));
                Due.is("steps", old < 2 ? 2 : old + 1, () -> m.riverOf(at, 1));
                Due.is("last", last[old], () -> m.riverOf(at, 2));
                Due.is("told", old + 2, () -> m.riverOf(at, 3));
            }
            Due.fails("the fourth", Due.INDEX, () -> m.riverOf(3, 0));
        }
    }

    @Holds(promise = 6, says = "Returns how many there are then.")
    static void dropReturnsThreeToNone() {
        MapScales m = fourRivers();
        for (int left = 3; left >= 0; left--) {
            Due.is("left", left, () -> m.drop(0));
        }
        Due.is("rivers", 0, () -> m.account(1));
    }

    @Holds(promise = 6, says = "Throws `IndexOutOfBoundsException` if there is no such river")
    static void dropKnowsNoRiverOutside() {
        Due.outside("drop, of none", Due.INDEX, MapScales::new, MapScales::drop, -1, 0);
        Due.outside("drop, of two", Due.INDEX, DrawBounds::riverMap, MapScales::drop, -1, 2, 3);
        Due.outside("drop, of four", Due.INDEX, DrawBounds::fourRivers, MapScales::drop, -1, 4);
        Due.is("the last of four", 3, () -> fourRivers().drop(3));
    }

    // ---- promise 7: dragon

    @Holds(promise = 7, says = "Puts a dragon onto a cell.")
    static void dragonGoesOntoTheFirstAndTheLastCell() {
        MapScales m = Due.map("a");
        m.paint(63, 3);
        m.dragon(0, 5);
        m.dragon(63, 6);
        Due.answers("the first one", what -> m.dragonOf(0, what), 0, 5, 0);
        Due.answers("the second one", what -> m.dragonOf(1, what), 63, 6, 3);
        Due.is("the cells are as before", 2, () -> m.account(0));
    }

    @Holds(promise = 7, says = "The realm of the cell pays for it.")
    static void dragonIsPaidByTheRealmOfItsCellAlone() {
        MapScales m = Due.map("abcd");
        m.dragon(3, 50);
        m.dragon(0, 1);
        Due.answers("coins of", realm -> m.realmOf(realm, 1), 99, 100, 100, 50);
        Due.fails("refused", Due.REFUSED, () -> m.dragon(0, 1));
        Due.is("a refusal costs nothing", 99, () -> m.realmOf(0, 1));
    }

    @Holds(promise = 7, says = "`price`: the price, 1 to 50")
    static void dragonCostsOneToFifty() {
        MapScales m = Due.map("ab");
        m.dragon(0, 1);
        m.dragon(1, 50);
        Due.is("the lowest", 1, () -> m.dragonOf(0, 1));
        Due.is("the highest", 50, () -> m.dragonOf(1, 1));
    }

    @Holds(promise = 7, says = "Returns the number of the dragon.")
    static void dragonReturnsZeroToFour() {
        MapScales m = Due.map("abcda");
        for (int dragon = 0; dragon < 5; dragon++) {
            int at = dragon;
            Due.is("the number", at, () -> m.dragon(at, 1));
        }
        m.scare(1);
        Due.is("the highest again", 4, () -> m.dragon(1, 1));
    }

    @Holds(promise = 7, says = "Throws `IndexOutOfBoundsException` if there is no such cell")
    static void dragonKnowsNoCellOutside() {
        Due.outside("dragon cell", Due.INDEX, DrawBounds::shavableMap, (m, cell) -> m.dragon(cell, 1), -1, 64);
    }

    @Holds(promise = 7, says = "Throws `IllegalArgumentException` if the price is out of range")
    static void dragonHasNoOtherPrice() {
        Due.outside("dragon price", Due.ARGUMENT, DrawBounds::shavableMap, (m, price) -> m.dragon(0, price), 0, 51, -1);
    }

    @Holds(promise = 7, says = "if it is refused for the reason 3, 8, 6 or 9")
    static void dragonIsRefusedOnACellOfNone() {
        MapScales m = Due.map(".a");
        Due.refused(m, "of none", () -> m.dragon(0, 1), 3, 0);
        Due.refused(m, "of none", () -> m.dragon(63, 50), 3, 63);
        MapScales full = fiveDragons();
        Due.refused(full, "3 ahead of 6", () -> full.dragon(5, 1), 3, 5);
    }

    @Holds(promise = 7, says = "if it is refused for the reason 3, 8, 6 or 9")
    static void dragonIsRefusedWhereOneIs() {
        MapScales m = Due.map("aa");
        m.dragon(0, 50);
        m.dragon(1, 49);
        Due.refused(m, "the first one", () -> m.dragon(0, 1), 8, 0);
        Due.refused(m, "8 ahead of 9", () -> m.dragon(1, 2), 8, 1);
        MapScales full = fiveDragons();
        Due.refused(full, "8 ahead of 6", () -> full.dragon(4, 1), 8, 4);
    }

    @Holds(promise = 7, says = "if it is refused for the reason 3, 8, 6 or 9")
    static void dragonIsRefusedIfFiveAreThere() {
        MapScales m = fiveDragons();
        m.paint(8, 3);
        Due.refused(m, "a sixth one", () -> m.dragon(8, 1), 6, 5);
        MapScales poor = Due.map("aaabbb");
        int[] prices = {50, 50, 0, 50, 49, 1};
        for (int cell : new int[] {0, 1, 3, 4, 5}) {
            poor.dragon(cell, prices[cell]);
        }
        Due.refused(poor, "6 ahead of 9", () -> poor.dragon(2, 1), 6, 5);
        poor.scare(4);
        Due.refused(poor, "9 when there is room", () -> poor.dragon(2, 1), 9, 0);
    }

    @Holds(promise = 7, says = "if it is refused for the reason 3, 8, 6 or 9")
    static void dragonIsRefusedForTooFewCoins() {
        MapScales m = Due.map("aaab");
        m.dragon(0, 50);
        m.dragon(1, 30);
        Due.refused(m, "one too few", () -> m.dragon(2, 21), 9, 20);
        Due.is("just enough", 2, () -> m.dragon(2, 20));
        Due.is("none left", 0, () -> m.realmOf(0, 1));
        m.paint(8, 0);
        Due.refused(m, "no coins", () -> m.dragon(8, 1), 9, 0);
        Due.is("another realm has some", 3, () -> m.dragon(3, 50));
    }

    @Holds(promise = 7, says = "At most 5 dragons are there, numbered from 0, no two on a cell.")
    static void fiveDragonsAreThere() {
        MapScales m = fiveDragons();
        m.paint(8, 3);
        Due.answers("cell of", dragon -> m.dragonOf(dragon, 0), 0, 1, 2, 3, 4);
        Due.fails("a sixth one", Due.REFUSED, () -> m.dragon(8, 1));
        Due.fails("a second one", Due.REFUSED, () -> m.dragon(0, 1));
        Due.is("still five", 5, () -> m.account(2));
        m.scare(0);
        Due.is("there is room again", 4, () -> m.dragon(8, 1));
        Due.fails("full again", Due.REFUSED, () -> m.dragon(0, 1));
    }

    @Holds(promise = 7, says = "the reason is then kept")
    static void dragonKeepsTheReason() {
        MapScales m = Due.map("a");
        Due.fails("of none", Due.REFUSED, () -> m.dragon(1, 1));
        m.dragon(0, 1);
        Due.fails("no such price", Due.ARGUMENT, () -> m.dragon(0, 0));
        Due.reasonsAre(m, "kept", 3, 1);
        Due.fails("one is there", Due.REFUSED, () -> m.dragon(0, 1));
        Due.reasonsAre(m, "the next one", 8, 0);
    }

    @Holds(promise = 7, says = "If several exceptions apply, the one that is documented first is thrown.")
    static void dragonMissesTheCellFirst() {
        MapScales both = fiveDragons();
        Due.keeps(both, "cell and price", Due.INDEX, () -> both.dragon(64, 0));
        MapScales price = fiveDragons();
        Due.keeps(price, "price, and refused", Due.ARGUMENT, () -> price.dragon(63, 51));
    }

    // ---- promise 8: scare

    @Holds(promise = 8, says = "Scares a dragon away: it is gone")
    static void scareFreesTheCell() {
        MapScales m = Due.map("a");
        m.dragon(0, 50);
        m.scare(0);
        Due.is("none is there", 0, () -> m.account(2));
        Due.is("none on its cells", 0, () -> m.realmOf(0, 2));
        Due.is("the cell is as before", 0, () -> m.realmAt(0));
        Due.is("another one", 0, () -> m.dragon(0, 50));
    }

    @Holds(promise = 8, says = "and its price is lost")
    static void scareLosesThePrice() {
        MapScales m = Due.map("ab");
        m.dragon(0, 50);
        m.dragon(1, 1);
        m.scare(0);
        Due.is("coins", 50, () -> m.realmOf(0, 1));
        Due.is("lost", 50, () -> m.account(8));
        m.scare(0);
        Due.is("coins", 99, () -> m.realmOf(1, 1));
        Due.is("lost", 51, () -> m.account(8));
        Due.is("refunded", 0, () -> m.account(6));
        Due.is("scared", 2, () -> m.account(7));
    }

    @Holds(promise = 8, says = "the numbers of the later ones become 1 less.")
    static void scareNumbersTheLaterDragonsAnew() {
        for (int gone = 0; gone < 5; gone++) {
            MapScales m = fiveDragons();
            m.scare(gone);
            dragonsAreWithout(m, gone);
        }
    }

    @Holds(promise = 8, says = "Returns its price.")
    static void scareReturnsOneToFifty() {
        MapScales m = Due.map("ab");
        m.dragon(0, 50);
        m.dragon(1, 1);
        Due.is("the lowest", 1, () -> m.scare(1));
        Due.is("the highest", 50, () -> m.scare(0));
    }

    @Holds(promise = 8, says = "Throws `IndexOutOfBoundsException` if there is no such dragon")
    static void scareKnowsNoDragonOutside() {
        Due.outside("scare, of none", Due.INDEX, MapScales::new, MapScales::scare, -1, 0);
        Due.outside("scare, of five", Due.INDEX, DrawBounds::fiveDragons, MapScales::scare, -1, 5);
        MapScales m = fiveDragons();
        Due.is("the last of five", 14, () -> m.scare(4));
        Due.keeps(m, "it is gone", Due.INDEX, () -> m.scare(4));
    }
}

/** Promises 1 to 8: a new object, and what is painted, shaved, drawn and put. */
public final class DrawTest {
    private DrawTest() {
    }

    public static void main(String[] args) {
        newObject();
        paint();
        paintRefunds();
        shave();
        shaveRefused();
        scale();
        river();
        riverRefused();
        drop();
        dragon();
        dragonRefused();
        scare();
        Due.end("DrawTest");
    }

    // Promise 1
    private static void newObject() {
        MapScales m = new MapScales();
        for (int cell = 0; cell < 64; cell++) {
            int at = cell;
            Due.is("realmAt " + cell, -1, () -> m.realmAt(at));
        }
        for (int realm = 0; realm < 4; realm++) {
            int at = realm;
            Due.is("coins", 100, () -> m.realmOf(at, 1));
            for (int what : new int[] {0, 2, 3, 4, 5}) {
                Due.is("realmOf " + what, 0, () -> m.realmOf(at, what));
            }
        }
        int[] accounts = {0, 0, 0, 400, 1, 0, 0, 0, 0, 0, 0};
        for (int account = 0; account < 11; account++) {
            int at = account;
            Due.is("account " + account, accounts[account], () -> m.account(at));
        }
    }

    // Promise 2
    private static void paint() {
        MapScales m = new MapScales();
        Due.is("paint(0, 3)", -1, () -> m.paint(0, 3));
        Due.is("paint(63, 0)", -1, () -> m.paint(63, 0));
        Due.is("paint(0, 2)", 3, () -> m.paint(0, 2));
        Due.is("realmAt(0)", 2, () -> m.realmAt(0));
        Due.is("paint(0, -1)", 2, () -> m.paint(0, -1));
        Due.is("realmAt(0)", -1, () -> m.realmAt(0));
        Due.is("no win by painting", 0, () -> m.realmOf(2, 3));
        Due.is("no loss by painting", 0, () -> m.realmOf(3, 4));
        Due.is("nothing shaved by painting", 0, () -> m.account(5));
        Due.refused(m, "paint(0, -1)", () -> m.paint(0, -1), 1, -1);
        Due.refused(m, "paint(63, 0)", () -> m.paint(63, 0), 1, 0);
        Due.failsIdly(m, "paint(-1, 9)", Due.INDEX, () -> m.paint(-1, 9));
        Due.failsIdly(m, "paint(64, 0)", Due.INDEX, () -> m.paint(64, 0));
        Due.failsIdly(m, "paint(0, -2)", Due.ARGUMENT, () -> m.paint(0, -2));
        Due.failsIdly(m, "paint(0, 4)", Due.ARGUMENT, () -> m.paint(0, 4));
        Due.failsIdly(m, "paint(least)", Due.INDEX, () -> m.paint(Integer.MIN_VALUE, 0));
    }

    private static void paintRefunds() {
        MapScales m = Due.map("abc");
        m.dragon(0, 10);
        m.dragon(1, 20);
        m.dragon(2, 30);
        Due.is("a cell with a dragon, the only one of its realm", 1, () -> m.paint(1, 0));
        Due.is("coins back", 100, () -> m.realmOf(1, 1));
        Due.is("coins of the others", 90, () -> m.realmOf(0, 1));
        Due.is("dragons", 2, () -> m.account(2));
        Due.is("refunded", 1, () -> m.account(6));
        Due.is("scared", 0, () -> m.account(7));
        Due.is("lost", 0, () -> m.account(8));
        Due.is("the later one is 1", 2, () -> m.dragonOf(1, 0));
        Due.is("its price", 30, () -> m.dragonOf(1, 1));
        Due.is("its realm", 2, () -> m.dragonOf(1, 2));
        Due.is("to none", 2, () -> m.paint(2, -1));
        Due.is("refunded", 2, () -> m.account(6));
        Due.is("coins back", 100, () -> m.realmOf(2, 1));
        Due.refused(m, "a refusal refunds nothing", () -> m.paint(0, 0), 1, 0);
        Due.is("no dragon there", -1, () -> m.paint(10, 1));
        Due.is("still there", 1, () -> m.account(2));
    }

    // Promise 3
    private static void shave() {
        MapScales m = Due.map("abb", "..b");
        m.dragon(1, 15);
        Due.is("shave(1, 0)", 1, () -> m.shave(1, 0));
        Due.is("realmAt(1)", 0, () -> m.realmAt(1));
        Due.is("won", 1, () -> m.realmOf(0, 3));
        Due.is("lost", 0, () -> m.realmOf(0, 4));
        Due.is("won", 0, () -> m.realmOf(1, 3));
        Due.is("lost", 1, () -> m.realmOf(1, 4));
        Due.is("shaved", 1, () -> m.account(5));
        Due.is("refunded", 1, () -> m.account(6));
        Due.is("coins", 100, () -> m.realmOf(1, 1));
        Due.is("dragons", 0, () -> m.account(2));
        Due.is("shave(2, 0)", 1, () -> m.shave(2, 0));
        Due.is("won", 2, () -> m.realmOf(0, 3));
        m.paint(18, 1);
        Due.is("from the row ahead", 1, () -> m.shave(10, 0));
        MapScales south = Due.map("b.......", "a......b");
        south.paint(20, 1);
        Due.is("from the row behind", 1, () -> south.shave(0, 0));
        MapScales west = Due.map("ba.....b");
        Due.is("from the column behind", 1, () -> west.shave(0, 0));
    }

    private static void shaveRefused() {
        MapScales m = Due.map(".......a", "bb......", ".......c");
        Due.failsIdly(m, "shave(-1, 4)", Due.INDEX, () -> m.shave(-1, 4));
        Due.failsIdly(m, "shave(64, 0)", Due.INDEX, () -> m.shave(64, 0));
        Due.failsIdly(m, "shave(0, 4)", Due.INDEX, () -> m.shave(0, 4));
        Due.failsIdly(m, "shave(7, -1)", Due.INDEX, () -> m.shave(7, -1));
        Due.refused(m, "shave(9, 1)", () -> m.shave(9, 1), 1, 1);
        Due.refused(m, "shave(6, 0)", () -> m.shave(6, 0), 2, 6, 3, 6);
        Due.refused(m, "rows are no ring", () -> m.shave(8, 0), 2, 8, 4, 0);
        m.paint(15, 0);
        m.paint(16, 2);
        Due.refused(m, "no cell beside", () -> m.shave(23, 3), 2, 23, 4, 3);
        m.paint(16, -1);
        Due.refused(m, "no cell beside, before only cell", () -> m.shave(23, 3), 2, 23, 4, 3);
        Due.refused(m, "only cell", () -> m.shave(23, 0), 2, 23, 5, 2);
        m.paint(40, 2);
        Due.is("no longer the only cell", 2, () -> m.shave(23, 0));
    }

    // Promise 4
    private static void scale() {
        MapScales m = new MapScales();
        Due.is("scale(9)", 1, () -> m.scale(9));
        Due.is("scale(1)", 9, () -> m.scale(1));
        Due.refused(m, "scale(1)", () -> m.scale(1), 1, 1);
        Due.is("scale(4)", 1, () -> m.scale(4));
        Due.refused(m, "scale(4)", () -> m.scale(4), 1, 4);
        Due.is("the scale", 4, () -> m.account(4));
        Due.failsIdly(m, "scale(0)", Due.ARGUMENT, () -> m.scale(0));
        Due.failsIdly(m, "scale(10)", Due.ARGUMENT, () -> m.scale(10));
        Due.failsIdly(m, "scale(-1)", Due.ARGUMENT, () -> m.scale(-1));
    }

    // Promise 5
    private static void river() {
        MapScales m = new MapScales();
        Due.is("one step", 0, () -> Due.drawRiver(m, 63, "n", 0));
        Due.is("the input is empty", 0, () -> m.account(9));
        Due.is("twelve steps", 1, () -> Due.drawRiver(m, 9, "nesswwnneesw", 99));
        int[] cells = {9, 1, 2, 10, 18, 17, 16, 8, 0, 1, 2, 10, 9};
        for (int place = 0; place < 13; place++) {
            int at = place;
            Due.is("place " + place, cells[place], () -> m.riverAt(1, at));
        }
        Due.is("told", 99, () -> m.riverOf(1, 3));
        Due.is("told", 0, () -> m.riverOf(0, 3));
        Due.is("the third", 2, () -> Due.drawRiver(m, 0, "es", 5));
        Due.is("the fourth", 3, () -> Due.drawRiver(m, 0, "s", 5));
    }

    private static void riverRefused() {
        MapScales m = new MapScales();
        Due.failsIdly(m, "river(64, 100)", Due.INDEX, () -> Due.drawRiver(m, 64, "e", 100));
        Due.is("the input is empty", 0, () -> m.account(9));
        Due.failsIdly(m, "river(-1, 1)", Due.INDEX, () -> Due.drawRiver(m, -1, "q", 1));
        Due.failsIdly(m, "river(0, 100)", Due.ARGUMENT, () -> Due.drawRiver(m, 0, "q", 100));
        Due.is("the input is empty", 0, () -> m.account(9));
        Due.failsIdly(m, "river(0, -1)", Due.ARGUMENT, () -> Due.drawRiver(m, 0, "e", -1));
        for (String steps : new String[] {"", "x", "eex", "e e", "eewweewweewwe", "N", "e;", "e=1"}) {
            MapScales bare = new MapScales();
            Due.failsIdly(bare, "steps " + steps, Due.STATE, () -> Due.drawRiver(bare, 0, steps, 1));
            Due.is("the input is empty", 0, () -> bare.account(9));
        }
        Due.refused(m, "north", () -> Due.drawRiver(m, 7, "n", 1), 7, 0);
        Due.is("the input is empty", 0, () -> m.account(9));
        Due.refused(m, "east", () -> Due.drawRiver(m, 6, "ee", 1), 7, 1);
        Due.refused(m, "west", () -> Due.drawRiver(m, 9, "sww", 1), 7, 2);
        Due.refused(m, "south", () -> Due.drawRiver(m, 55, "swws", 1), 7, 3);
        Due.refused(m, "the first of two", () -> Due.drawRiver(m, 0, "ewwwe", 1), 7, 2);
        for (int k = 0; k < 8; k++) {
            int along = k;
            MapScales bare = new MapScales();
            Due.refused(bare, "north of row 0", () -> Due.drawRiver(bare, along, "n", 1), 7, 0);
            Due.refused(bare, "south of row 7", () -> Due.drawRiver(bare, 56 + along, "s", 1), 7, 0);
            Due.refused(bare, "west of column 0", () -> Due.drawRiver(bare, 8 * along, "w", 1), 7, 0);
            Due.refused(bare, "east of column 7", () -> Due.drawRiver(bare, 8 * along + 7, "e", 1), 7, 0);
        }
        for (int k = 0; k < 4; k++) {
            Due.drawRiver(m, 0, "e", 1);
        }
        Due.refused(m, "a fifth one", () -> Due.drawRiver(m, 0, "w", 1), 6, 4);
        Due.failsIdly(m, "no steps first", Due.STATE, () -> m.river(0, 1));
    }

    // Promise 6
    private static void drop() {
        MapScales m = new MapScales();
        Due.failsIdly(m, "drop(0)", Due.INDEX, () -> m.drop(0));
        Due.drawRiver(m, 10, "e", 1);
        Due.drawRiver(m, 20, "ss", 2);
        Due.drawRiver(m, 30, "www", 3);
        Due.drawRiver(m, 40, "nnnn", 4);
        Due.is("drop(1)", 3, () -> m.drop(1));
        Due.is("rivers", 3, () -> m.account(1));
        int[] first = {10, 30, 40};
        int[] steps = {1, 3, 4};
        int[] last = {11, 27, 8};
        for (int river = 0; river < 3; river++) {
            int at = river;
            Due.is("first", first[river], () -> m.riverOf(at, 0));
            Due.is("steps", steps[river], () -> m.riverOf(at, 1));
            Due.is("last", last[river], () -> m.riverOf(at, 2));
            Due.is("told", steps[river], () -> m.riverOf(at, 3));
        }
        Due.failsIdly(m, "drop(3)", Due.INDEX, () -> m.drop(3));
        Due.failsIdly(m, "drop(-1)", Due.INDEX, () -> m.drop(-1));
        Due.is("drop(2)", 2, () -> m.drop(2));
        Due.is("drop(0)", 1, () -> m.drop(0));
        Due.is("first", 30, () -> m.riverOf(0, 0));
        Due.is("a new one", 1, () -> Due.drawRiver(m, 5, "s", 5));
    }

    // Promise 7
    private static void dragon() {
        MapScales m = Due.map("aab", "cd");
        Due.is("dragon(0, 1)", 0, () -> m.dragon(0, 1));
        Due.is("coins", 99, () -> m.realmOf(0, 1));
        Due.is("dragon(1, 50)", 1, () -> m.dragon(1, 50));
        Due.is("coins", 49, () -> m.realmOf(0, 1));
        Due.is("others", 100, () -> m.realmOf(1, 1));
        Due.is("cell", 1, () -> m.dragonOf(1, 0));
        Due.is("price", 50, () -> m.dragonOf(1, 1));
        Due.is("payer", 0, () -> m.dragonOf(1, 2));
        Due.failsIdly(m, "dragon(64, 0)", Due.INDEX, () -> m.dragon(64, 0));
        Due.failsIdly(m, "dragon(-1, 1)", Due.INDEX, () -> m.dragon(-1, 1));
        Due.failsIdly(m, "dragon(3, 51)", Due.ARGUMENT, () -> m.dragon(3, 51));
        Due.failsIdly(m, "dragon(2, 0)", Due.ARGUMENT, () -> m.dragon(2, 0));
    }

    private static void dragonRefused() {
        MapScales m = Due.map("aaabbb", "bbcd");
        Due.refused(m, "no realm", () -> m.dragon(40, 5), 3, 40);
        m.dragon(0, 50);
        m.dragon(1, 41);
        Due.refused(m, "too few", () -> m.dragon(2, 10), 9, 9);
        Due.is("just enough", 2, () -> m.dragon(2, 9));
        Due.is("none left", 0, () -> m.realmOf(0, 1));
        Due.refused(m, "one is there, before too few", () -> m.dragon(1, 10), 8, 1);
        m.paint(7, 0);
        Due.refused(m, "no coins", () -> m.dragon(7, 1), 9, 0);
        m.dragon(3, 1);
        m.dragon(4, 1);
        Due.refused(m, "too many, before too few", () -> m.dragon(7, 1), 6, 5);
        Due.refused(m, "too many", () -> m.dragon(5, 1), 6, 5);
        Due.refused(m, "one is there, before too many", () -> m.dragon(4, 1), 8, 4);
        Due.refused(m, "no realm, before too many", () -> m.dragon(63, 1), 3, 63);
    }

    // Promise 8
    private static void scare() {
        MapScales m = Due.map("abc");
        Due.failsIdly(m, "scare(0)", Due.INDEX, () -> m.scare(0));
        m.dragon(0, 11);
        m.dragon(1, 22);
        m.dragon(2, 33);
        Due.is("scare(1)", 22, () -> m.scare(1));
        Due.is("coins", 78, () -> m.realmOf(1, 1));
        Due.is("scared", 1, () -> m.account(7));
        Due.is("lost", 22, () -> m.account(8));
        Due.is("refunded", 0, () -> m.account(6));
        Due.is("dragons", 2, () -> m.account(2));
        Due.is("the first", 0, () -> m.dragonOf(0, 0));
        Due.is("the later one", 2, () -> m.dragonOf(1, 0));
        Due.is("its price", 33, () -> m.dragonOf(1, 1));
        Due.is("its realm", 2, () -> m.dragonOf(1, 2));
        Due.failsIdly(m, "scare(2)", Due.INDEX, () -> m.scare(2));
        Due.failsIdly(m, "scare(-1)", Due.INDEX, () -> m.scare(-1));
        Due.is("scare(0)", 11, () -> m.scare(0));
        Due.is("lost", 33, () -> m.account(8));
        Due.is("scared", 2, () -> m.account(7));
        scareOneOfFive();
    }

    private static void scareOneOfFive() {
        for (int gone = 0; gone < 5; gone++) {
            MapScales m = Due.map("abcda");
            for (int dragon = 0; dragon < 5; dragon++) {
                m.dragon(dragon, 10 + dragon);
            }
            int one = gone;
            Due.is("one of five", 10 + gone, () -> m.scare(one));
            for (int dragon = 0; dragon < 4; dragon++) {
                int at = dragon;
                int old = dragon < gone ? dragon : dragon + 1;
                Due.is("cell", old, () -> m.dragonOf(at, 0));
                Due.is("price", 10 + old, () -> m.dragonOf(at, 1));
                Due.is("payer", old % 4, () -> m.dragonOf(at, 2));
            }
        }
    }
}

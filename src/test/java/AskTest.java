/** Promises 9 to 22: what is drawn, weights, borders and parts. */
public final class AskTest {
    private AskTest() {
    }

    public static void main(String[] args) {
        realmAt();
        realmOf();
        riverOf();
        riverAt();
        dragonOf();
        weight();
        border();
        around();
        parts();
        couldShave();
        shavable();
        Due.end("AskTest");
    }

    // Promise 9
    private static void realmAt() {
        MapScales m = Due.map("abcd");
        for (int cell = 0; cell < 5; cell++) {
            int at = cell;
            Due.is("realmAt " + cell, cell < 4 ? cell : -1, () -> m.realmAt(at));
        }
        Due.is("realmAt 63", -1, () -> m.realmAt(63));
        Due.fails("realmAt 64", Due.INDEX, () -> m.realmAt(64));
        Due.fails("realmAt -1", Due.INDEX, () -> m.realmAt(-1));
    }

    // Promise 10
    private static void realmOf() {
        MapScales m = Due.map("aaabb", "aabbb");
        m.dragon(0, 7);
        m.dragon(4, 8);
        m.dragon(1, 9);
        m.shave(3, 0);
        m.shave(2, 1);
        m.shave(9, 1);
        Due.drawRiver(m, 0, "eses", 1);
        Due.drawRiver(m, 60, "e", 1);
        Due.drawRiver(m, 12, "ee", 1);
        int[] first = {4, 84, 2, 1, 2, 1};
        int[] second = {6, 92, 1, 2, 1, 2};
        int[] third = {0, 100, 0, 0, 0, 0};
        for (int what = 0; what < 6; what++) {
            int at = what;
            Due.is("realmOf(0, " + what + ")", first[what], () -> m.realmOf(0, at));
            Due.is("realmOf(1, " + what + ")", second[what], () -> m.realmOf(1, at));
            Due.is("realmOf(3, " + what + ")", third[what], () -> m.realmOf(3, at));
            Due.fails("realmOf(4, what)", Due.INDEX, () -> m.realmOf(4, at));
        }
        Due.fails("realmOf(-1, 9)", Due.INDEX, () -> m.realmOf(-1, 9));
        Due.fails("realmOf(0, 6)", Due.ARGUMENT, () -> m.realmOf(0, 6));
        Due.fails("realmOf(3, -1)", Due.ARGUMENT, () -> m.realmOf(3, -1));
    }

    // Promise 11
    private static void riverOf() {
        MapScales m = Due.map("a.ab");
        m.scale(3);
        Due.drawRiver(m, 0, "eee", 7);
        Due.drawRiver(m, 8, "nes", 99);
        int[] first = {0, 3, 3, 7, 9, 3};
        int[] second = {8, 3, 9, 99, 9, 2};
        for (int what = 0; what < 6; what++) {
            int at = what;
            Due.is("riverOf(0, " + what + ")", first[what], () -> m.riverOf(0, at));
            Due.is("riverOf(1, " + what + ")", second[what], () -> m.riverOf(1, at));
        }
        m.scale(9);
        Due.is("by the scale", 27, () -> m.riverOf(0, 4));
        m.paint(1, 0);
        Due.is("crossings", 1, () -> m.riverOf(0, 5));
        Due.fails("riverOf(2, 6)", Due.INDEX, () -> m.riverOf(2, 6));
        Due.fails("riverOf(-1, 0)", Due.INDEX, () -> m.riverOf(-1, 0));
        Due.fails("riverOf(0, 6)", Due.ARGUMENT, () -> m.riverOf(0, 6));
        Due.fails("riverOf(1, -1)", Due.ARGUMENT, () -> m.riverOf(1, -1));
    }

    // Promise 12
    private static void riverAt() {
        MapScales m = new MapScales();
        Due.drawRiver(m, 5, "sw", 1);
        Due.drawRiver(m, 62, "ew", 1);
        int[][] cells = {{5, 13, 12}, {62, 63, 62}};
        for (int river = 0; river < 2; river++) {
            for (int place = 0; place < 3; place++) {
                int one = river;
                int at = place;
                Due.is("riverAt", cells[river][place], () -> m.riverAt(one, at));
            }
        }
        Due.fails("riverAt(0, 3)", Due.ELEMENT, () -> m.riverAt(0, 3));
        Due.fails("riverAt(1, -1)", Due.ELEMENT, () -> m.riverAt(1, -1));
        Due.fails("riverAt(2, 9)", Due.INDEX, () -> m.riverAt(2, 9));
        Due.fails("riverAt(-1, 0)", Due.INDEX, () -> m.riverAt(-1, 0));
    }

    // Promise 13
    private static void dragonOf() {
        MapScales m = Due.map("....d...", "c");
        m.dragon(4, 12);
        m.dragon(8, 34);
        int[][] numbers = {{4, 12, 3}, {8, 34, 2}};
        for (int dragon = 0; dragon < 2; dragon++) {
            for (int what = 0; what < 3; what++) {
                int one = dragon;
                int at = what;
                Due.is("dragonOf", numbers[dragon][what], () -> m.dragonOf(one, at));
            }
        }
        Due.fails("dragonOf(2, 7)", Due.INDEX, () -> m.dragonOf(2, 7));
        Due.fails("dragonOf(-1, 0)", Due.INDEX, () -> m.dragonOf(-1, 0));
        Due.fails("dragonOf(0, 3)", Due.ARGUMENT, () -> m.dragonOf(0, 3));
        Due.fails("dragonOf(1, -1)", Due.ARGUMENT, () -> m.dragonOf(1, -1));
    }

    // Promises 14 and 15
    private static void weight() {
        MapScales m = Due.map("aab.cc");
        Due.drawRiver(m, 0, "eeeee", 1);
        weighs(m, 0, 11 + 9);
        Due.drawRiver(m, 56, "e", 1);
        weighs(m, 1, 2);
        Due.drawRiver(m, 0, "ewewewewewew", 1);
        weighs(m, 2, 26);
        Due.drawRiver(m, 1, "ewew", 1);
        weighs(m, 3, 10 + 12);
        m.paint(1, -1);
        weighs(m, 3, 7 + 12);
        weighs(m, 2, 20 + 36);
        for (int river : new int[] {4, -1}) {
            Due.fails("weight " + river, Due.INDEX, () -> m.weight(river));
            Due.fails("weightAgain " + river, Due.INDEX, () -> m.weightAgain(river));
        }
    }

    private static void weighs(MapScales m, int river, int want) {
        Due.is("weight " + river, want, () -> m.weight(river));
        Due.is("weightAgain " + river, want, () -> m.weightAgain(river));
    }

    // Promise 16
    private static void border() {
        MapScales m = Due.map("aab.....", "abb....a", "bc......", "a.......");
        int[][] lengths = {{0, 5, 0, 0}, {5, 0, 2, 0}, {0, 2, 0, 0}, {0, 0, 0, 0}};
        for (int one = 0; one < 4; one++) {
            for (int other = 0; other < 4; other++) {
                int a = one;
                int b = other;
                Due.is("border " + a + " " + b, lengths[a][b], () -> m.border(a, b));
            }
        }
        Due.fails("border(4, 0)", Due.INDEX, () -> m.border(4, 0));
        Due.fails("border(0, 4)", Due.INDEX, () -> m.border(0, 4));
        Due.fails("border(-1, -1)", Due.INDEX, () -> m.border(-1, -1));
        Due.fails("border(0, -1)", Due.INDEX, () -> m.border(0, -1));
    }

    // Promises 17 and 18
    private static void around() {
        MapScales m = Due.map("aab.....", "abb....a", "b.......", "........", "...ccc", "...c.c", "...ccc");
        int[] lengths = {12, 12, 16, 0};
        for (int realm = 0; realm < 4; realm++) {
            int at = realm;
            Due.is("around " + realm, lengths[realm], () -> m.around(at));
            Due.is("aroundAgain " + realm, lengths[realm], () -> m.aroundAgain(at));
        }
        MapScales full = Due.map("dddddddd", "dddddddd", "dddddddd", "dddddddd",
                "dddddddd", "dddddddd", "dddddddd", "dddddddd");
        Due.is("the edge", 32, () -> full.around(3));
        Due.is("the edge again", 32, () -> full.aroundAgain(3));
        for (int realm : new int[] {4, -1}) {
            Due.fails("around " + realm, Due.INDEX, () -> m.around(realm));
            Due.fails("aroundAgain " + realm, Due.INDEX, () -> m.aroundAgain(realm));
        }
    }

    // Promises 19 and 20
    private static void parts() {
        String snake = "dddddddd";
        MapScales m = Due.map("a.a....b", "aaa.....", "b..a....", "ba.a....", "b.bb.bbb", "b.b...b.", "bbb...bb");
        partsAre(m, 0, 3);
        partsAre(m, 1, 3);
        partsAre(m, 2, 0);
        m.paint(16, 0);
        partsAre(m, 0, 3);
        m.paint(17, 0);
        m.paint(18, 0);
        partsAre(m, 0, 1);
        MapScales full = Due.map(snake, snake, snake, snake, snake, snake, snake, snake);
        partsAre(full, 3, 1);
        MapScales winding = Due.map(snake, ".......d", snake, "d.......", snake, ".......d", snake, "d.......");
        partsAre(winding, 3, 1);
        MapScales board = Due.map("c.c.c.c.", ".c.c.c.c", "c.c.c.c.", ".c.c.c.c",
                "c.c.c.c.", ".c.c.c.c", "c.c.c.c.", ".c.c.c.c");
        partsAre(board, 2, 32);
        partsAre(board, 0, 0);
        for (int realm : new int[] {4, -1}) {
            Due.fails("parts " + realm, Due.INDEX, () -> m.parts(realm));
            Due.fails("partsAgain " + realm, Due.INDEX, () -> m.partsAgain(realm));
        }
    }

    private static void partsAre(MapScales m, int realm, int want) {
        Due.is("parts " + realm, want, () -> m.parts(realm));
        Due.is("partsAgain " + realm, want, () -> m.partsAgain(realm));
    }

    // Promise 21
    private static void couldShave() {
        MapScales m = Due.map("abb.....", "b......c", "b......c");
        Due.is("beside", true, () -> m.couldShave(1, 0));
        Due.is("below", true, () -> m.couldShave(8, 0));
        Due.is("not beside", false, () -> m.couldShave(2, 0));
        Due.is("its own", false, () -> m.couldShave(0, 0));
        Due.is("of none", false, () -> m.couldShave(9, 1));
        Due.is("the only one", false, () -> m.couldShave(0, 1));
        Due.is("rows are no ring", false, () -> m.couldShave(15, 1));
        Due.reasonsAre(m, "couldShave keeps no reason");
        for (int cell : new int[] {-1, 64}) {
            Due.fails("couldShave " + cell, Due.INDEX, () -> m.couldShave(cell, 0));
        }
        for (int realm : new int[] {-1, 4}) {
            Due.fails("couldShave for " + realm, Due.INDEX, () -> m.couldShave(0, realm));
        }
    }

    // Promise 22
    private static void shavable() {
        MapScales m = Due.map("abbc....", "abb.....", "d......b", "aaaaaaaa");
        int[] counts = {3, 3, 1, 2};
        for (int realm = 0; realm < 4; realm++) {
            int at = realm;
            Due.is("shavable " + realm, counts[realm], () -> m.shavable(at));
        }
        Due.reasonsAre(m, "shavable keeps no reason");
        Due.fails("shavable 4", Due.INDEX, () -> m.shavable(4));
        Due.fails("shavable -1", Due.INDEX, () -> m.shavable(-1));
    }
}

/** Promises 23 to 30: folds, lies, orders and truth. */
public final class FoldTest {
    private FoldTest() {
    }

    public static void main(String[] args) {
        lies();
        liesOfColumns();
        bestFold();
        wrong();
        bestScale();
        ranked();
        heaviest();
        isTrue();
        Due.end("FoldTest");
    }

    private static void liesAre(MapScales m, boolean isRow, int... want) {
        for (int crease = 1; crease < 8; crease++) {
            int at = crease;
            String call = "(" + isRow + ", " + crease + ")";
            Due.is("lies" + call, want[crease - 1], () -> m.lies(isRow, at));
            Due.is("liesAgain" + call, want[crease - 1], () -> m.liesAgain(isRow, at));
        }
    }

    // Promises 23 and 24
    private static void lies() {
        MapScales m = Due.map("ab......", "a.......", "........", ".......c");
        liesAre(m, true, 1, 4, 4, 4, 1, 0, 0);
        liesAre(m, false, 2, 3, 3, 4, 1, 1, 1);
        for (int crease : new int[] {0, 8, -1, Integer.MAX_VALUE}) {
            for (boolean isRow : new boolean[] {true, false}) {
                Due.fails("lies " + crease, Due.ARGUMENT, () -> m.lies(isRow, crease));
                Due.fails("liesAgain " + crease, Due.ARGUMENT, () -> m.liesAgain(isRow, crease));
            }
        }
        MapScales bare = new MapScales();
        liesAre(bare, true, 0, 0, 0, 0, 0, 0, 0);
        liesAre(bare, false, 0, 0, 0, 0, 0, 0, 0);
    }

    private static void liesOfColumns() {
        MapScales m = Due.map("abcdabcd", "abcdabcd", "abcdabcd", "abcdabcd",
                "abcdabcd", "abcdabcd", "abcdabcd", "abcdabcd");
        liesAre(m, true, 0, 0, 0, 0, 0, 0, 0);
        liesAre(m, false, 8, 16, 24, 32, 24, 16, 8);
        MapScales stripes = Due.map("aaaaaaaa", "bbbbbbbb", "........", "bbbbbbbb", "aaaaaaaa");
        liesAre(stripes, true, 8, 16, 24, 24, 16, 8, 0);
        liesAre(stripes, false, 0, 0, 0, 0, 0, 0, 0);
    }

    // Promise 25
    private static void bestFold() {
        MapScales bare = new MapScales();
        Due.is("bestFold(true)", 1, () -> bare.bestFold(true));
        Due.is("bestFold(false)", 1, () -> bare.bestFold(false));
        MapScales stripes = Due.map("aaaaaaaa", "bbbbbbbb", "bbbbbbbb", "aaaaaaaa");
        Due.is("of several the first one", 2, () -> stripes.bestFold(true));
        Due.is("columns are alike", 1, () -> stripes.bestFold(false));
        Due.is("the middle", 4, () -> Due.map("abcddcba").bestFold(false));
        Due.is("the last one", 7, () -> Due.map("abcdabcc").bestFold(false));
        Due.is("lies everywhere", 1, () -> Due.map("abcdabcd").bestFold(false));
        Due.is("lies everywhere", 5, () -> Due.map("abcdbbda", "b.......").bestFold(false));
        Due.is("a row", 2, () -> Due.map("a", "b", "b", "a", "c", "d", "a", "b").bestFold(true));
    }

    // Promise 26
    private static void wrong() {
        MapScales m = new MapScales();
        Due.is("none", 0, () -> m.wrong());
        Due.drawRiver(m, 0, "ee", 5);
        Due.is("too short by 3", 3, () -> m.wrong());
        Due.drawRiver(m, 0, "eeee", 1);
        Due.is("without a sign", 6, () -> m.wrong());
        Due.drawRiver(m, 0, "eee", 3);
        Due.is("one is right", 6, () -> m.wrong());
        m.scale(3);
        Due.is("by the scale", 1 + 11 + 6, () -> m.wrong());
    }

    // Promise 27
    private static void bestScale() {
        MapScales m = new MapScales();
        Due.fails("bestScale", Due.ELEMENT, () -> m.bestScale());
        Due.drawRiver(m, 0, "ee", 7);
        Due.is("of several the lowest", 3, () -> m.bestScale());
        Due.drawRiver(m, 0, "ee", 9);
        Due.is("all together", 4, () -> m.bestScale());
        m.scale(8);
        Due.is("whatever the scale", 4, () -> m.bestScale());
        m.drop(0);
        m.drop(0);
        Due.drawRiver(m, 0, "e", 99);
        Due.is("the highest", 9, () -> m.bestScale());
        m.drop(0);
        Due.drawRiver(m, 0, "e", 0);
        Due.is("the lowest", 1, () -> m.bestScale());
        m.drop(0);
        Due.fails("bestScale", Due.ELEMENT, () -> m.bestScale());
    }

    // Promise 28
    private static void ranked() {
        MapScales m = new MapScales();
        ranksAre(m, 0, 1, 2, 3);
        m.paint(0, 2);
        ranksAre(m, 2, 0, 1, 3);
        m.paint(1, 1);
        ranksAre(m, 1, 2, 0, 3);
        m.dragon(1, 1);
        ranksAre(m, 2, 1, 0, 3);
        m.paint(2, 1);
        ranksAre(m, 1, 2, 0, 3);
        m.dragon(0, 50);
        m.paint(3, 3);
        ranksAre(m, 1, 3, 2, 0);
        Due.fails("ranked(4)", Due.ELEMENT, () -> m.ranked(4));
        Due.fails("ranked(-1)", Due.ELEMENT, () -> m.ranked(-1));
    }

    private static void ranksAre(MapScales m, int... want) {
        for (int place = 0; place < 4; place++) {
            int at = place;
            Due.is("ranked " + place, want[place], () -> m.ranked(at));
        }
    }

    // Promise 29
    private static void heaviest() {
        MapScales m = Due.map("aaa");
        Due.fails("heaviest(0)", Due.ELEMENT, () -> m.heaviest(0));
        Due.drawRiver(m, 40, "e", 1);
        Due.drawRiver(m, 40, "ee", 1);
        Due.drawRiver(m, 40, "eee", 1);
        Due.drawRiver(m, 0, "e", 1);
        int[] want = {2, 3, 1, 0};
        for (int place = 0; place < 4; place++) {
            int at = place;
            Due.is("heaviest " + place, want[place], () -> m.heaviest(at));
        }
        Due.fails("heaviest(4)", Due.ELEMENT, () -> m.heaviest(4));
        Due.fails("heaviest(-1)", Due.ELEMENT, () -> m.heaviest(-1));
        m.drop(2);
        Due.drawRiver(m, 1, "e", 1);
        Due.is("of two alike the lowest", 2, () -> m.heaviest(0));
        Due.is("of two alike the lowest", 3, () -> m.heaviest(1));
        m.drop(3);
        Due.fails("heaviest(3)", Due.ELEMENT, () -> m.heaviest(3));
        m.drop(0);
        m.drop(0);
        Due.drawRiver(m, 40, "e", 1);
        Due.is("the first one", 0, () -> m.heaviest(0));
        Due.is("the second one", 1, () -> m.heaviest(1));
    }

    // Promise 30
    private static void isTrue() {
        MapScales m = Due.map("aabb.c", "ab.bcc", "ddd.a");
        Due.is("isTrue", true, () -> m.isTrue());
        m.dragon(0, 20);
        m.dragon(3, 30);
        m.dragon(1, 5);
        Due.drawRiver(m, 0, "eeseswww", 7);
        Due.is("with dragons", true, () -> m.isTrue());
        m.shave(11, 2);
        m.shave(8, 3);
        m.shave(1, 1);
        Due.is("after shaving", true, () -> m.isTrue());
        m.scare(0);
        Due.is("after scaring", true, () -> m.isTrue());
        m.paint(2, -1);
        m.undo();
        m.undo();
        Due.is("after undoing", true, () -> m.isTrue());
    }
}

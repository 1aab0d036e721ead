/** Promises 38 to 40: texts, error positions and reasons. */
public final class TextTest {
    private TextTest() {
    }

    public static void main(String[] args) {
        kinds();
        numbers();
        malformed();
        notThere();
        refused();
        firstDecides();
        errorPosition();
        reason();
        longest();
        Due.end("TextTest");
    }

    // Promise 38
    private static void kinds() {
        MapScales m = new MapScales();
        Due.is("paint", 4, () -> Due.readText(m, "p0a;p1b;p2b;p63d"));
        Due.is("the input is empty", 0, () -> m.account(9));
        Due.is("one change", 1, () -> m.account(10));
        Due.is("realmAt(63)", 3, () -> m.realmAt(63));
        Due.is("paint to none", 1, () -> Due.readText(m, "p63."));
        Due.is("realmAt(63)", -1, () -> m.realmAt(63));
        Due.is("shave", 1, () -> Due.readText(m, "s1a"));
        Due.is("shaved", 1, () -> m.account(5));
        Due.is("won", 1, () -> m.realmOf(0, 3));
        Due.is("scale", 1, () -> Due.readText(m, "m9"));
        Due.is("scale", 9, () -> m.account(4));
        Due.is("rivers", 2, () -> Due.readText(m, "r9:nesw=7;r20:ssssnnnnssss=99"));
        Due.is("first", 9, () -> m.riverOf(0, 0));
        Due.is("told", 7, () -> m.riverOf(0, 3));
        Due.is("steps", 12, () -> m.riverOf(1, 1));
        Due.is("drop", 1, () -> Due.readText(m, "k0"));
        Due.is("the later one", 20, () -> m.riverOf(0, 0));
        Due.is("dragons", 2, () -> Due.readText(m, "d0/50;d2/5"));
        Due.is("coins", 50, () -> m.realmOf(0, 1));
        Due.is("scare", 1, () -> Due.readText(m, "f0"));
        Due.is("lost", 50, () -> m.account(8));
        Due.is("refund in a text", 1, () -> Due.readText(m, "p2c"));
        Due.is("refunded", 1, () -> m.account(6));
        Due.is("changes", 6, () -> m.account(10));
    }

    private static void numbers() {
        MapScales m = new MapScales();
        Due.is("zeros ahead", 4, () -> Due.readText(m, "p00a;p09b;d00/05;r01:e=00"));
        Due.is("cell 0", 0, () -> m.realmAt(0));
        Due.is("cell 9", 1, () -> m.realmAt(9));
        Due.is("price", 5, () -> m.dragonOf(0, 1));
        Due.is("told", 0, () -> m.riverOf(0, 3));
    }

    // Promises 38 and 39
    private static void malformed() {
        errorIs("", 0);
        errorIs(";", 0);
        errorIs("P0a", 0);
        errorIs(" p0a", 0);
        errorIs("p", 1);
        errorIs("pa", 1);
        errorIs("p1", 2);
        errorIs("p12", 3);
        errorIs("p123", 3);
        errorIs("p1e", 2);
        errorIs("p1A", 2);
        errorIs("p1`", 2);
        errorIs("p1a ", 3);
        errorIs("p1aa", 3);
        errorIs("p1a;", 4);
        errorIs("p1a;;", 4);
        errorIs("p1a;q", 4);
        errorIs("s1.", 2);
        errorIs("s63", 3);
        errorIs("s1e", 2);
        errorIs("s1d.", 3);
        errorIs("m", 1);
        errorIs("ma", 1);
        errorIs("m10", 2);
        errorIs("k", 1);
        errorIs("k00", 2);
        errorIs("f:", 1);
        errorIs("f/", 1);
        errorIs("f12", 2);
        errorIs("r:", 1);
        errorIs("r0n", 2);
        errorIs("r0:=", 3);
        errorIs("r0:x", 3);
        errorIs("r0:nesw", 7);
        errorIs("r0:nesw;", 7);
        errorIs("r0:nnnnnnnnnnnnn", 15);
        errorIs("r0:nnnnnnnnnnnn", 15);
        errorIs("r0:nnnnnnnnnnnn=", 16);
        errorIs("r0:n=;", 5);
        errorIs("r0:n=100", 7);
        errorIs("d0:", 2);
        errorIs("d0/", 3);
        errorIs("d0/x", 3);
        errorIs("d0/123", 5);
        errorIs("d/5", 1);
        errorIs("p64a;m0;x", 8);
        errorIs("p0a;p0a;d", 9);
    }

    private static void errorIs(String text, int want) {
        MapScales m = Due.map("ab");
        Due.failsIdly(m, text, Due.ARGUMENT, () -> Due.readText(m, text));
        Due.is("error position of " + text, want, () -> m.errorPosition());
        Due.is("the input is empty", 0, () -> m.account(9));
        Due.reasonsAre(m, text);
    }

    private static void notThere() {
        String[] texts = {"p64a", "p99.", "s64a", "r64:e=1", "r99:n=1", "d64/1", "d0/0", "d0/51", "d0/99", "d64/0",
            "m0", "k0", "k9", "f0", "f9", "p9a;r0:e=1;k1", "d0/5;f1", "d0/5;f0;f0", "m2;m0"};
        for (String text : texts) {
            MapScales m = Due.map("ab");
            Due.failsIdly(m, text, Due.STATE, () -> Due.readText(m, text));
            Due.is("the input is empty", 0, () -> m.account(9));
            Due.reasonsAre(m, text);
            Due.fails(text, Due.ELEMENT, () -> m.errorPosition());
        }
    }

    private static void refused() {
        refusedIs(Due.map("abb", "..c"), "p0a", 10, 0, 1, 0);
        refusedIs(Due.map("abb", "..c"), "p9.", 10, 0, 1, -1);
        refusedIs(Due.map("abb", "..c"), "p9a;p9a", 10, 1, 1, 0);
        refusedIs(Due.map("abb", "..c"), "s1b", 10, 0, 1, 1);
        refusedIs(Due.map("abb", "..c"), "s1a;s9a", 10, 1, 2, 9, 3, 9);
        refusedIs(Due.map("abb", "..c"), "s2a", 10, 0, 2, 2, 4, 0);
        refusedIs(Due.map("abb", "..c"), "s0b", 10, 0, 2, 0, 5, 0);
        refusedIs(Due.map("abb", "..c"), "m2;m3;m3", 10, 2, 1, 3);
        refusedIs(Due.map("abb", "..c"), "m1", 10, 0, 1, 1);
        refusedIs(Due.map("abb", "..c"), "r0:es=1;r0:esww=1", 10, 1, 7, 3);
        refusedIs(Due.map("abb", "..c"), "r0:e=1;r0:e=1;r0:e=1;r0:e=1;r0:w=1", 10, 4, 6, 4);
        refusedIs(Due.map("abb", "..c"), "d9/5", 10, 0, 3, 9);
        refusedIs(Due.map("abb", "..c"), "d0/5;d1/6;d1/50", 10, 2, 8, 1);
        refusedIs(Due.map("abb", "..c"), "d1/50;d2/49;p3b;d3/2", 10, 3, 9, 1);
        refusedIs(Due.map("abb", "..c"), "p3a;p4a;d0/1;d1/1;d2/1;d3/1;d10/1;d4/50", 10, 7, 6, 5);
    }

    private static void refusedIs(MapScales m, String text, int... reasons) {
        Due.refused(m, text, () -> Due.readText(m, text), reasons);
        Due.is("the input is empty", 0, () -> m.account(9));
    }

    private static void firstDecides() {
        MapScales m = Due.map("ab");
        Due.failsIdly(m, "not there first", Due.STATE, () -> Due.readText(m, "p64a;p0a"));
        Due.reasonsAre(m, "not there first");
        refusedIs(m, "p0a;p64a", 10, 0, 1, 0);
        Due.failsIdly(m, "not there behind", Due.STATE, () -> Due.readText(m, "m5;p64a"));
        Due.reasonsAre(m, "the reason stays", 10, 0, 1, 0);
        Due.is("the scale", 1, () -> m.account(4));
    }

    // Promise 39
    private static void errorPosition() {
        MapScales m = new MapScales();
        Due.fails("none was kept", Due.ELEMENT, () -> m.errorPosition());
        Due.fails("malformed", Due.ARGUMENT, () -> Due.readText(m, "p1z"));
        Due.is("kept", 2, () -> m.errorPosition());
        m.save();
        Due.is("well formed", 1, () -> Due.readText(m, "p1a"));
        Due.is("it stays", 2, () -> m.errorPosition());
        m.undo();
        m.restore();
        Due.is("it stays", 2, () -> m.errorPosition());
        Due.fails("malformed", Due.ARGUMENT, () -> m.read());
        Due.is("the next one", 0, () -> m.errorPosition());
    }

    // Promise 40
    private static void reason() {
        MapScales m = Due.map("ab");
        Due.reasonsAre(m, "none was kept");
        for (int depth : new int[] {-1, 3, Integer.MAX_VALUE}) {
            Due.fails("reason " + depth, Due.ARGUMENT, () -> m.reason(depth, true));
            Due.fails("reason " + depth, Due.ARGUMENT, () -> m.reason(depth, false));
        }
        Due.refused(m, "a cause", () -> m.shave(0, 1), 2, 0, 5, 0);
        Due.refused(m, "none", () -> m.scale(1), 1, 1);
        refusedIs(m, "s9a", 10, 0, 2, 9, 3, 9);
        m.paint(5, 3);
        m.save();
        m.undo();
        m.restore();
        Due.reasonsAre(m, "it stays", 10, 0, 2, 9, 3, 9);
        Due.fails("no such dragon", Due.INDEX, () -> m.scare(0));
        Due.reasonsAre(m, "it stays", 10, 0, 2, 9, 3, 9);
        Due.refused(m, "the next one", () -> m.dragon(9, 5), 3, 9);
        for (int depth : new int[] {-1, 3}) {
            Due.fails("reason " + depth, Due.ARGUMENT, () -> m.reason(depth, true));
        }
    }

    // Promises 37 and 38
    private static void longest() {
        MapScales m = new MapScales();
        StringBuilder text = new StringBuilder("p09a");
        for (int k = 0; k < 18; k++) {
            text.append(";m").append(2 + k % 2);
        }
        text.append("  ");
        Due.failsIdly(m, "60 characters", Due.ARGUMENT, () -> Due.readText(m, text.toString()));
        Due.is("error position", 58, () -> m.errorPosition());
        text.setLength(58);
        Due.is("19 commands", 19, () -> Due.readText(m, text.toString()));
        Due.is("scale", 3, () -> m.account(4));
        String open = text + ";s";
        Due.failsIdly(m, "60 characters, open", Due.ARGUMENT, () -> Due.readText(m, open));
        Due.is("error position", 60, () -> m.errorPosition());
        StringBuilder most = new StringBuilder("m4");
        for (int k = 0; k < 19; k++) {
            most.append(";m").append(5 + k % 2);
        }
        Due.is("20 commands", 20, () -> Due.readText(m, most.toString()));
    }
}

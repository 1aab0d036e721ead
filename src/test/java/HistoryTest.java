/** Promises 41 to 43: undo, save and restore. */
public final class HistoryTest {
    private HistoryTest() {
    }

    public static void main(String[] args) {
        everyChange();
        atMostSix();
        notRemembered();
        save();
        restore();
        Due.end("HistoryTest");
    }

    // Promise 41
    private static void everyChange() {
        undoes("paint", m -> m.paint(1, 3));
        undoes("shave", m -> m.shave(1, 0));
        undoes("scale", m -> m.scale(2));
        undoes("river", m -> Due.drawRiver(m, 9, "nesw", 4));
        undoes("drop", m -> m.drop(0));
        undoes("dragon", m -> m.dragon(8, 50));
        undoes("scare", m -> m.scare(1));
        undoes("read", m -> Due.readText(m, "p1a;s2a;m3;r0:e=1;k0;d8/5;f0"));
    }

    private static void undoes(String call, Due.Change change) {
        MapScales m = Due.map("abbb....", "c");
        Due.drawRiver(m, 0, "es", 1);
        Due.drawRiver(m, 63, "nwn", 3);
        m.dragon(0, 5);
        m.dragon(1, 6);
        m.dragon(2, 7);
        String before = Due.drawn(m);
        change.go(m);
        Due.is(call + " changes something", false, () -> before.equals(Due.drawn(m)));
        Due.is(call + " is remembered", 6, () -> m.account(10));
        Due.is("undo " + call, 5, () -> m.undo());
        Due.is("undone " + call, before, () -> Due.drawn(m));
    }

    private static void atMostSix() {
        MapScales m = new MapScales();
        Due.fails("undo", Due.ELEMENT, () -> m.undo());
        for (int k = 0; k < 15; k++) {
            m.paint(k, 1);
            int want = Math.min(k + 1, 6);
            Due.is("changes", want, () -> m.account(10));
        }
        for (int k = 5; k >= 0; k--) {
            int left = k;
            Due.is("undo", left, () -> m.undo());
            Due.is("changes", left, () -> m.account(10));
            Due.is("cells", 9 + left, () -> m.account(0));
        }
        Due.fails("undo", Due.ELEMENT, () -> m.undo());
        Due.is("the oldest are forgotten", 9, () -> m.account(0));
        m.paint(60, 2);
        m.paint(61, 2);
        Due.is("undo", 1, () -> m.undo());
        m.paint(62, 2);
        Due.is("undo", 1, () -> m.undo());
        Due.is("undo", 0, () -> m.undo());
        Due.is("cells", 9, () -> m.account(0));
    }

    private static void notRemembered() {
        MapScales m = Due.map("a");
        Due.type(m, "e");
        m.row(0);
        m.paint(1, 0);
        Due.fails("scale(1)", Due.REFUSED, () -> m.scale(1));
        Due.is("refused is no change", 2, () -> m.account(10));
        m.save();
        m.isTrue();
        Due.is("asking and saving are none", 2, () -> m.account(10));
        Due.is("undo", 1, () -> m.undo());
        Due.is("the input", 1, () -> m.account(9));
        Due.is("the line", 'a', () -> m.character(0));
        Due.reasonsAre(m, "the reason", 1, 1);
        Due.is("restore", 0, () -> m.restore());
        Due.is("what was saved", 0, () -> m.realmAt(1));
        Due.is("river", 0, () -> m.river(0, 1));
        Due.is("undo", 0, () -> m.undo());
        Due.is("the input is empty", 0, () -> m.account(9));
    }

    // Promise 42
    private static void save() {
        MapScales m = Due.map("ab");
        Due.is("save", 0, () -> m.save());
        Due.drawRiver(m, 0, "e", 1);
        Due.drawRiver(m, 0, "es", 1);
        m.dragon(0, 9);
        Due.is("save", 2, () -> m.save());
        Due.is("save forgets nothing", 5, () -> m.account(10));
        String drawn = Due.drawn(m);
        m.drop(0);
        m.scare(0);
        m.scale(5);
        m.paint(0, 3);
        Due.is("restore", 2, () -> m.restore());
        Due.is("all of it", drawn, () -> Due.drawn(m));
        m.drop(0);
        Due.is("save", 1, () -> m.save());
        m.drop(0);
        Due.is("the one before is replaced", 1, () -> m.restore());
    }

    // Promise 43
    private static void restore() {
        MapScales m = Due.map("abb", "abb");
        Due.failsIdly(m, "restore", Due.STATE, () -> m.restore());
        m.dragon(1, 30);
        m.shave(1, 0);
        m.save();
        String drawn = Due.drawn(m);
        Due.type(m, "ee");
        m.paint(40, 1);
        m.shave(9, 0);
        Due.is("restore", 0, () -> m.restore());
        Due.is("restored", drawn, () -> Due.drawn(m));
        Due.is("the changes are forgotten", 0, () -> m.account(10));
        Due.is("the input stays", 2, () -> m.account(9));
        Due.fails("undo", Due.ELEMENT, () -> m.undo());
        m.scale(2);
        Due.is("one change", 1, () -> m.account(10));
        Due.is("it stays saved", 0, () -> m.restore());
        Due.is("restored again", drawn, () -> Due.drawn(m));
        Due.fails("undo", Due.ELEMENT, () -> m.undo());
    }
}

/** Promises 31 to 37: lines, means, accounts and the input. */
public final class LineTest {
    private LineTest() {
    }

    public static void main(String[] args) {
        row();
        tell();
        character();
        meanWrong();
        ownedShare();
        account();
        append();
        Due.end("LineTest");
    }

    // Promise 31
    private static void row() {
        MapScales m = Due.map("abcd.a..", "", "", "", "", "", "", "...d..cb");
        m.dragon(1, 1);
        m.dragon(5, 1);
        m.dragon(3, 1);
        m.dragon(63, 1);
        m.dragon(62, 1);
        String[] lines = {"aBcD.A..", "........", "........", "........",
            "........", "........", "........", "...d..CB"};
        for (int y = 0; y < 8; y++) {
            int at = y;
            Due.is("row " + y, 8, () -> m.row(at));
            Due.is("line of row " + y, lines[y], () -> Due.line(m, 8));
            Due.fails("behind the line", Due.ELEMENT, () -> m.character(8));
        }
        Due.fails("row(8)", Due.INDEX, () -> m.row(8));
        Due.fails("row(-1)", Due.INDEX, () -> m.row(-1));
        Due.is("the line is left", lines[7], () -> Due.line(m, 8));
    }

    // Promise 32
    private static void tell() {
        MapScales m = new MapScales();
        Due.drawRiver(m, 12, "nes", 8);
        Due.drawRiver(m, 63, "nwsenwsenwse", 99);
        Due.drawRiver(m, 9, "n", 1);
        Due.drawRiver(m, 10, "ss", 10);
        tells(m, 0, "12:nes=8?");
        tells(m, 1, "63:nwsenwsenwse=99?");
        tells(m, 2, "9:n=1");
        tells(m, 3, "10:ss=10?");
        m.scale(5);
        tells(m, 2, "9:n=1?");
        tells(m, 3, "10:ss=10");
        m.drop(0);
        Due.drawRiver(m, 0, "es", 0);
        tells(m, 3, "0:es=0?");
        Due.fails("tell(4)", Due.INDEX, () -> m.tell(4));
        Due.fails("tell(-1)", Due.INDEX, () -> m.tell(-1));
        Due.is("the line is left", "0:es=0?", () -> Due.line(m, 7));
    }

    private static void tells(MapScales m, int river, String want) {
        Due.is("tell " + river, want.length(), () -> m.tell(river));
        Due.is("line of " + river, want, () -> Due.line(m, want.length()));
        Due.fails("behind the line", Due.ELEMENT, () -> m.character(want.length()));
    }

    // Promise 33
    private static void character() {
        MapScales m = Due.map("a");
        Due.fails("empty at first", Due.ELEMENT, () -> m.character(0));
        Due.fails("empty at first", Due.ELEMENT, () -> m.character(-1));
        m.row(0);
        Due.is("character(0)", 'a', () -> m.character(0));
        Due.is("character(7)", '.', () -> m.character(7));
        Due.fails("character(-1)", Due.ELEMENT, () -> m.character(-1));
        Due.fails("character(8)", Due.ELEMENT, () -> m.character(8));
        Due.fails("character(60)", Due.ELEMENT, () -> m.character(60));
        m.save();
        m.paint(0, 1);
        m.undo();
        m.row(1);
        m.restore();
        Due.is("the line is not remembered", '.', () -> m.character(0));
        Due.drawRiver(m, 0, "e", 1);
        m.tell(0);
        Due.is("a shorter line", '0', () -> m.character(0));
        Due.fails("a shorter line", Due.ELEMENT, () -> m.character(5));
    }

    // Promise 34
    private static void meanWrong() {
        MapScales m = new MapScales();
        Due.fails("meanWrong", Due.ARITHMETIC, () -> m.meanWrong());
        Due.drawRiver(m, 0, "e", 1);
        Due.is("right", 0.0, () -> m.meanWrong());
        Due.drawRiver(m, 0, "e", 2);
        Due.is("a half", 0.5, () -> m.meanWrong());
        Due.drawRiver(m, 0, "eee", 0);
        Due.is("4 by 3", 4.0 / 3.0, () -> m.meanWrong());
        m.drop(0);
        m.drop(0);
        m.drop(0);
        Due.fails("meanWrong", Due.ARITHMETIC, () -> m.meanWrong());
    }

    // Promise 35
    private static void ownedShare() {
        MapScales m = new MapScales();
        Due.is("none", 0.0f, () -> m.ownedShare());
        for (int cell = 0; cell < 64; cell++) {
            m.paint(cell, cell % 4);
            float want = (cell + 1) / 64.0f;
            Due.is("share", want, () -> m.ownedShare());
        }
        m.paint(5, -1);
        Due.is("all but one", 0.984375f, () -> m.ownedShare());
    }

    // Promise 36
    private static void account() {
        MapScales m = Due.map("aabb.cd", "..b");
        m.dragon(0, 10);
        m.dragon(2, 20);
        m.dragon(5, 30);
        m.dragon(6, 40);
        m.shave(2, 0);
        m.shave(3, 0);
        m.scare(1);
        m.scale(7);
        Due.drawRiver(m, 0, "e", 1);
        Due.type(m, "xyz");
        int[] want = {7, 1, 2, 320, 7, 2, 1, 1, 30, 3, 6};
        for (int account = 0; account < 11; account++) {
            int at = account;
            Due.is("account " + account, want[account], () -> m.account(at));
        }
        Due.fails("account(11)", Due.ARGUMENT, () -> m.account(11));
        Due.fails("account(-1)", Due.ARGUMENT, () -> m.account(-1));
    }

    // Promise 37
    private static void append() {
        MapScales m = new MapScales();
        for (char wrong : new char[] {0, 10, 31, 127, 200, (char) 0x120, (char) 65535}) {
            Due.fails("append " + (int) wrong, Due.ARGUMENT, () -> m.append(wrong));
        }
        Due.is("nothing appended", 0, () -> m.account(9));
        for (int k = 0; k < 60; k++) {
            char sign = (char) (k % 2 == 0 ? 32 : 126);
            Due.is("append", k + 1, () -> m.append(sign));
            int length = k + 1;
            Due.is("length", length, () -> m.account(9));
        }
        Due.fails("full", Due.STATE, () -> m.append('a'));
        Due.fails("full, and out of range", Due.ARGUMENT, () -> m.append((char) 31));
        Due.is("still 60", 60, () -> m.account(9));
        Due.is("no change", 0, () -> m.account(10));
    }
}

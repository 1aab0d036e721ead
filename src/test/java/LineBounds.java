/** Boundary cases of the promises 31 to 37: lines, means, accounts and the input. */
final class LineBounds {
    private static final String ALL = "dddddddd";

    private LineBounds() {
    }

    private static void rowIs(MapScales m, int y, String want) {
        Due.is("row " + y, 8, () -> m.row(y));
        Due.is("line of row " + y, want, () -> Due.line(m, 8));
        Due.fails("behind the line", Due.ELEMENT, () -> m.character(8));
    }

    private static void tells(MapScales m, int river, String want) {
        Due.is("tell " + river, want.length(), () -> m.tell(river));
        Due.is("line of " + river, want, () -> Due.line(m, want.length()));
        Due.fails("behind the line", Due.ELEMENT, () -> m.character(want.length()));
    }

    /** A map with a written line. */
    private static MapScales written() {
        MapScales m = Due.map("abcd");
        m.row(0);
        return m;
    }

    /** A map with two rivers and a written line. */
    private static MapScales told() {
        MapScales m = new MapScales();
        Due.drawRiver(m, 0, "e", 1);
        Due.drawRiver(m, 63, "nwnwnwnwnwnw", 99);
        m.tell(1);
        return m;
    }

    // ---- promise 31: row

    @Holds(promise = 31, says = "for each cell \"a\" to \"d\" for its realm")
    static void rowTellsTheFirstAndTheLastRow() {
        MapScales m = Due.map("abcdabcd", "", "", "", "", "", "", "d.c.b.a.");
        rowIs(m, 0, "abcdabcd");
        rowIs(m, 7, "d.c.b.a.");
    }

    @Holds(promise = 31, says = "as a capital if a dragon is there")
    static void rowTellsDragonsAsCapitals() {
        MapScales m = Due.map("abcda");
        for (int cell = 0; cell < 5; cell++) {
            m.dragon(cell, 1);
        }
        rowIs(m, 0, "ABCDA...");
        m.scare(4);
        rowIs(m, 0, "ABCDa...");
        m.scare(0);
        m.paint(1, 3);
        rowIs(m, 0, "adCDa...");
        MapScales last = new MapScales();
        last.paint(63, 3);
        last.dragon(63, 50);
        rowIs(last, 7, ".......D");
    }

    @Holds(promise = 31, says = "and \".\" for none.")
    static void rowTellsNone() {
        MapScales m = Due.map("d");
        rowIs(m, 1, "........");
        m.paint(0, -1);
        rowIs(m, 0, "........");
    }

    @Holds(promise = 31, says = "Writes a row of the map, in place of the line before")
    static void rowReplacesALongerLine() {
        MapScales m = told();
        Due.is("19 characters", '?', () -> m.character(18));
        rowIs(m, 0, "........");
        Due.fails("the end of the line before", Due.ELEMENT, () -> m.character(18));
    }

    @Holds(promise = 31, says = "Returns the length of the line.")
    static void rowIsEightLong() {
        for (int y = 0; y < 8; y++) {
            int at = y;
            Due.is("row " + at, 8, () -> new MapScales().row(at));
        }
        MapScales m = new MapScales();
        m.row(3);
        Due.is("again", 8, () -> m.row(3));
    }

    @Holds(promise = 31, says = "Throws `IndexOutOfBoundsException` if there is no such row")
    static void rowKnowsNoRowOutside() {
        Due.outside("row", Due.INDEX, LineBounds::written, MapScales::row, -1, 8);
        Due.outside("row, of an empty line", Due.INDEX, MapScales::new, MapScales::row, -1, 8);
    }

    // ---- promise 32: tell

    @Holds(promise = 32, says = "its first cell, \":\", its steps, \"=\" and the miles told")
    static void tellTellsTheShortestAndTheLongest() {
        MapScales m = new MapScales();
        Due.drawRiver(m, 0, "e", 1);
        tells(m, 0, "0:e=1");
        Due.drawRiver(m, 63, "nwnwnwnwnwnw", 99);
        tells(m, 1, "63:nwnwnwnwnwnw=99?");
        Due.drawRiver(m, 9, "nesw", 9);
        tells(m, 2, "9:nesw=9?");
        Due.drawRiver(m, 10, "swne", 10);
        tells(m, 3, "10:swne=10?");
    }

    @Holds(promise = 32, says = "and \"?\" behind that if they are told wrongly")
    static void tellDoubtsWhatIsWrongByOne() {
        MapScales m = new MapScales();
        Due.drawRiver(m, 0, "eee", 2);
        Due.drawRiver(m, 0, "eee", 3);
        Due.drawRiver(m, 0, "eee", 4);
        Due.drawRiver(m, 0, "eee", 0);
        tells(m, 0, "0:eee=2?");
        tells(m, 1, "0:eee=3");
        tells(m, 2, "0:eee=4?");
        tells(m, 3, "0:eee=0?");
        m.scale(2);
        tells(m, 1, "0:eee=3?");
        MapScales longest = new MapScales();
        longest.scale(9);
        Due.drawRiver(longest, 0, "eseseseseses".substring(0, 11), 99);
        tells(longest, 0, "0:esesesesese=99");
    }

    @Holds(promise = 32, says = "as in \"12:nnes=8?\".")
    static void tellLooksAsInTheDocument() {
        MapScales m = new MapScales();
        Due.drawRiver(m, 20, "nnes", 8);
        tells(m, 0, "20:nnes=8?");
    }

    @Holds(promise = 32, says = "Writes a river, in place of the line before")
    static void tellReplacesALongerLine() {
        MapScales m = told();
        tells(m, 0, "0:e=1");
        Due.fails("the end of the line before", Due.ELEMENT, () -> m.character(18));
        m.row(0);
        tells(m, 0, "0:e=1");
        Due.fails("the end of the row before", Due.ELEMENT, () -> m.character(7));
    }

    @Holds(promise = 32, says = "Returns the length of the line.")
    static void tellIsFiveToNineteenLong() {
        MapScales m = told();
        Due.is("the shortest", 5, () -> m.tell(0));
        Due.is("the longest", 19, () -> m.tell(1));
        m.scale(2);
        Due.is("with a doubt", 6, () -> m.tell(0));
    }

    @Holds(promise = 32, says = "Throws `IndexOutOfBoundsException` if there is no such river")
    static void tellKnowsNoRiverOutside() {
        Due.outside("tell, of none", Due.INDEX, LineBounds::written, MapScales::tell, -1, 0);
        Due.outside("tell, of two", Due.INDEX, LineBounds::told, MapScales::tell, -1, 2);
        MapScales full = told();
        Due.drawRiver(full, 9, "n", 1);
        Due.drawRiver(full, 9, "s", 1);
        Due.is("the last of four", 5, () -> full.tell(3));
        Due.fails("behind four", Due.INDEX, () -> full.tell(4));
    }

    // ---- promise 33: character

    @Holds(promise = 33, says = "Returns a character of the line, which is empty at first.")
    static void characterOfTheFirstLine() {
        MapScales m = new MapScales();
        Due.keeps(m, "empty at first", Due.ELEMENT, () -> m.character(0));
        m.row(0);
        Due.is("not any more", '.', () -> m.character(0));
    }

    @Holds(promise = 33, says = "`index`: the index, from 0")
    static void characterOfTheFirstAndTheLastIndex() {
        MapScales row = Due.map("abcd...a");
        row.row(0);
        Due.is("the first", 'a', () -> row.character(0));
        Due.is("the last", 'a', () -> row.character(7));
        Due.is("the one ahead", '.', () -> row.character(6));
        MapScales m = told();
        Due.is("the first", '6', () -> m.character(0));
        Due.is("the last", '?', () -> m.character(18));
    }

    @Holds(promise = 33, says = "Throws `NoSuchElementException` if there is none")
    static void characterKnowsNoIndexOutside() {
        Due.outside("character, of an empty line", Due.ELEMENT, MapScales::new, MapScales::character, -1, 0, 59, 60);
        Due.outside("character, of a row", Due.ELEMENT, LineBounds::written, MapScales::character, -1, 8, 59, 60);
        Due.outside("character, of a river", Due.ELEMENT, LineBounds::told, MapScales::character, -1, 19);
    }

    // ---- promise 34: meanWrong

    @Holds(promise = 34, says = "the sum divided by how many there are, both converted to double.")
    static void meanWrongOfOneToFour() {
        MapScales m = new MapScales();
        Due.drawRiver(m, 0, "e", 1);
        Due.is("none wrongly", 0.0, () -> m.meanWrong());
        Due.drawRiver(m, 0, "e", 2);
        Due.is("a half", 0.5, () -> m.meanWrong());
        Due.drawRiver(m, 0, "e", 0);
        Due.is("two thirds", 2.0 / 3.0, () -> m.meanWrong());
        Due.drawRiver(m, 0, "e", 99);
        Due.is("a hundred of four", 25.0, () -> m.meanWrong());
        MapScales most = new MapScales();
        most.scale(9);
        for (int river = 0; river < 4; river++) {
            Due.drawRiver(most, 0, "ewewewewewew", 0);
        }
        Due.is("the most", 108.0, () -> most.meanWrong());
    }

    @Holds(promise = 34, says = "Returns the mean of the miles by which rivers are told wrongly")
    static void meanWrongHasNoSigns() {
        MapScales m = new MapScales();
        Due.drawRiver(m, 0, "eee", 5);
        Due.drawRiver(m, 0, "eee", 1);
        Due.is("2 and 2", 2.0, () -> m.meanWrong());
    }

    @Holds(promise = 34, says = "Throws `ArithmeticException` if there are no rivers")
    static void meanWrongNeedsARiver() {
        MapScales m = new MapScales();
        Due.keeps(m, "none yet", Due.ARITHMETIC, () -> m.meanWrong());
        Due.drawRiver(m, 0, "e", 3);
        Due.is("one", 2.0, () -> m.meanWrong());
        m.drop(0);
        Due.fails("none any more", Due.ARITHMETIC, () -> m.meanWrong());
    }

    // ---- promise 35: ownedShare

    @Holds(promise = 35, says = "Returns the share of the cells of the map that belong to realms, both numbers converted to "
            + "float.")
    static void ownedShareOfNoneOneAndAll() {
        MapScales m = new MapScales();
        Due.is("none", 0.0f, () -> m.ownedShare());
        m.paint(63, 0);
        Due.is("one", 0.015625f, () -> m.ownedShare());
        Due.is("all", 1.0f, () -> Due.map(ALL, ALL, ALL, ALL, ALL, ALL, ALL, ALL).ownedShare());
        Due.is("all but one", 0.984375f, () -> Due.map("aaaaaaaa", "bbbbbbbb", ALL, ALL, ALL, "cccccccc", ALL, "ddddddd")
                .ownedShare());
    }

    // ---- promise 36: account

    @Holds(promise = 36, says = "`account`: 0 for the cells of all realms, 1 for the rivers, 2 for the dragons")
    static void accountsOfWhatIsDrawn() {
        MapScales bare = new MapScales();
        Due.answers("nothing", bare::account, 0, 0, 0);
        MapScales m = Due.map("abcda", ALL, ALL, ALL, ALL, ALL, ALL, ALL);
        m.paint(5, 0);
        m.paint(6, 1);
        m.paint(7, 2);
        for (int number = 0; number < 5; number++) {
            m.dragon(number, 1);
        }
        for (int number = 0; number < 4; number++) {
            Due.drawRiver(m, 0, "e", 1);
        }
        Due.answers("as much as can be", m::account, 64, 4, 5);
    }

    @Holds(promise = 36, says = "3 for the coins of all realms")
    static void accountOfCoins() {
        MapScales m = Due.map("aabbc");
        Due.is("at first", 400, () -> m.account(3));
        for (int cell = 0; cell < 5; cell++) {
            m.dragon(cell, 50);
        }
        Due.is("five dragons", 150, () -> m.account(3));
        m.scare(4);
        Due.is("a scared one is not paid back", 150, () -> m.account(3));
        m.paint(0, -1);
        Due.is("a refunded one is", 200, () -> m.account(3));
    }

    @Holds(promise = 36, says = "4 for the scale")
    static void accountOfTheScale() {
        MapScales m = new MapScales();
        Due.is("the lowest", 1, () -> m.account(4));
        m.scale(9);
        Due.is("the highest", 9, () -> m.account(4));
    }

    @Holds(promise = 36, says = "5 for how often borders were shaved so far")
    static void accountOfShaving() {
        MapScales m = Due.map("abb");
        Due.is("never", 0, () -> m.account(5));
        m.shave(1, 0);
        m.shave(1, 1);
        Due.fails("refused", Due.REFUSED, () -> m.shave(1, 1));
        m.paint(1, 0);
        Due.is("twice", 2, () -> m.account(5));
        m.paint(0, -1);
        m.paint(1, -1);
        Due.is("so far", 2, () -> m.account(5));
    }

    @Holds(promise = 36, says = "6 for the dragons refunded so far, 7 for the dragons scared away so far, 8 for the coins lost by "
            + "these")
    static void accountsOfDragonsGone() {
        MapScales m = Due.map("abbb");
        m.dragon(0, 50);
        m.dragon(1, 40);
        m.dragon(2, 30);
        Due.is("none refunded", 0, () -> m.account(6));
        Due.is("none scared", 0, () -> m.account(7));
        Due.is("none lost", 0, () -> m.account(8));
        m.shave(1, 0);
        Due.is("one refunded, by shaving", 1, () -> m.account(6));
        m.paint(2, -1);
        Due.is("two, by painting", 2, () -> m.account(6));
        Due.is("none scared", 0, () -> m.account(7));
        m.scare(0);
        Due.is("still two refunded", 2, () -> m.account(6));
        Due.is("one scared", 1, () -> m.account(7));
        Due.is("its price lost", 50, () -> m.account(8));
        m.dragon(3, 1);
        m.scare(0);
        Due.is("two scared", 2, () -> m.account(7));
        Due.is("both prices lost", 51, () -> m.account(8));
    }

    @Holds(promise = 36, says = "9 for the characters of the input")
    static void accountOfTheInput() {
        MapScales m = new MapScales();
        Due.is("empty", 0, () -> m.account(9));
        Due.type(m, "x".repeat(60));
        Due.is("full", 60, () -> m.account(9));
        Due.fails("more", Due.STATE, () -> m.append('x'));
        Due.is("still full", 60, () -> m.account(9));
        Due.fails("read", Due.ARGUMENT, () -> m.read());
        Due.is("empty again", 0, () -> m.account(9));
    }

    @Holds(promise = 36, says = "10 for the changes that can be undone")
    static void accountOfChanges() {
        MapScales m = new MapScales();
        Due.is("none", 0, () -> m.account(10));
        for (int cell = 0; cell < 8; cell++) {
            m.paint(cell, 0);
            int want = cell < 6 ? cell + 1 : 6;
            Due.is("at most six", want, () -> m.account(10));
        }
        m.undo();
        Due.is("five", 5, () -> m.account(10));
        m.save();
        m.restore();
        Due.is("none", 0, () -> m.account(10));
    }

    @Holds(promise = 36, says = "Throws `IllegalArgumentException` if account is not 0 to 10")
    static void accountKnowsNoOthers() {
        Due.outside("account", Due.ARGUMENT, LineBounds::told, MapScales::account, -1, 11);
        Due.is("the last one", 2, () -> told().account(10));
    }

    // ---- promise 37: append

    @Holds(promise = 37, says = "Appends a character to the input.")
    static void appendAddsBehind() {
        MapScales m = new MapScales();
        m.append('e');
        m.append('s');
        m.append('w');
        m.river(0, 1);
        Due.answers("places", place -> m.riverAt(0, place), 0, 1, 9, 8);
        Due.is("appending is no change", 1, () -> m.account(10));
    }

    @Holds(promise = 37, says = "`character`: the character, with a code from 32 to 126")
    static void appendTakesAllCodes() {
        for (int code = 32; code <= 126; code++) {
            MapScales m = new MapScales();
            char sign = (char) code;
            Due.is("append " + code, 1, () -> m.append(sign));
        }
    }

    @Holds(promise = 37, says = "Returns the new length of the input.")
    static void appendReturnsOneToSixty() {
        MapScales m = new MapScales();
        for (int length = 1; length <= 60; length++) {
            Due.is("append", length, () -> m.append('x'));
        }
        Due.fails("read", Due.ARGUMENT, () -> m.read());
        Due.is("from 1 again", 1, () -> m.append('x'));
    }

    @Holds(promise = 37, says = "Throws `IllegalArgumentException` if the character code is out of range")
    static void appendKnowsNoOtherCodes() {
        for (int code : new int[] {0, 10, 31, 127, 128, 255, 256, 256 + 'a', 0x7fff, 0x8000 + 'a', 0xffff}) {
            MapScales m = told();
            Due.keeps(m, "append " + code, Due.ARGUMENT, () -> m.append((char) code));
        }
    }

    @Holds(promise = 37, says = "Throws `IllegalStateException` if the input has 60 characters")
    static void appendFailsIfTheInputIsFull() {
        MapScales m = new MapScales();
        Due.type(m, "m2;m3;".repeat(9) + "m2;m3");
        Due.is("the sixtieth", 60, () -> m.append('x'));
        Due.keeps(m, "one more", Due.STATE, () -> m.append(';'));
        Due.fails("it was not appended", Due.ARGUMENT, () -> m.read());
        Due.is("it broke off at the sixtieth", 59, () -> m.errorPosition());
    }

    @Holds(promise = 37, says = "If several exceptions apply, the one that is documented first is thrown.")
    static void appendMissesTheCodeFirst() {
        MapScales m = new MapScales();
        Due.type(m, "x".repeat(60));
        Due.keeps(m, "31, full", Due.ARGUMENT, () -> m.append((char) 31));
        Due.keeps(m, "127, full", Due.ARGUMENT, () -> m.append((char) 127));
    }

    @Holds(promise = 37, says = "The input is a buffer of at most 60 characters.")
    static void appendTakesSixtyCharacters() {
        MapScales m = new MapScales();
        Due.type(m, "m2;m3;".repeat(9) + "m2;p0a");
        Due.is("length", 60, () -> m.account(9));
        Due.is("all of them are there", 20, () -> m.read());
        Due.is("the last one too", 0, () -> m.realmAt(0));
    }
}

/** Boundary cases of the promises 38 to 40: texts, error positions and reasons. */
final class TextBounds {
    /** Twenty commands, one character short of a full input when the last two are added. */
    private static final String EIGHTEEN = "m2;m3;".repeat(9);

    private TextBounds() {
    }

    /** A map with something of all kinds, and with a reason, an error position and a line. */
    private static MapScales furnished() {
        MapScales m = Due.map("abb");
        Due.drawRiver(m, 0, "e", 1);
        m.dragon(2, 5);
        Due.fails("refused", Due.REFUSED, () -> m.scale(1));
        Due.fails("malformed", Due.ARGUMENT, () -> Due.readText(m, "p1?"));
        m.row(0);
        return m;
    }

    private static void works(MapScales m, String text, int commands) {
        Due.is("read " + text, commands, () -> Due.readText(m, text));
    }

    /** The text is malformed, at this place. */
    private static void breaksAt(int want, String text) {
        MapScales m = new MapScales();
        Due.fails("read " + text, Due.ARGUMENT, () -> Due.readText(m, text));
        Due.is("error position of " + text, want, () -> m.errorPosition());
    }

    /** The text tells something that is not there, and changes nothing. */
    private static void missesSomething(String text) {
        MapScales m = furnished();
        Due.keeps(m, "read " + text, Due.STATE, () -> Due.readText(m, text));
    }

    private static void isRefused(MapScales m, String text, int... reasons) {
        Due.refused(m, text, () -> Due.readText(m, text), reasons);
    }

    // ---- promise 38: read

    @Holds(promise = 38, says = "Carries out the commands of the text in the input, one after the other")
    static void readLetsCommandsSeeTheOnesAhead() {
        MapScales m = new MapScales();
        works(m, "p0a;p1b;p2b;s1a;d0/50;d1/50;f0", 7);
        Due.answers("realmAt", m::realmAt, 0, 0, 1, -1);
        Due.answers("accounts", m::account, 3, 0, 1, 300, 1, 1, 0, 1, 50);
        works(m, "r0:e=1;r0:s=2;k0;m5;m6;m5;p1.", 7);
        Due.answers("the second river", what -> m.riverOf(0, what), 0, 1, 8, 2, 5, 1);
        Due.answers("accounts", m::account, 2, 1, 0, 350, 5, 1, 1, 1, 50);
    }

    @Holds(promise = 38, says = "or none of them.")
    static void readTakesAllBackIfTheLastFails() {
        String some = "p3a;s1a;m9;r0:e=1;k0;d3/5;f0;f0;d0/9;p0d;";
        MapScales missing = furnished();
        Due.keeps(missing, "the last tells what is not there", Due.STATE, () -> Due.readText(missing, some + "k1"));
        MapScales broken = furnished();
        String before = Due.drawn(broken);
        Due.fails("the last is malformed", Due.ARGUMENT, () -> Due.readText(broken, some + "k"));
        Due.is("all is as before", before, () -> Due.drawn(broken));
        Due.is("no change", 5, () -> broken.account(10));
        MapScales refused = furnished();
        isRefused(refused, some + "m9", 10, 10, 1, 9);
        Due.is("no change", 5, () -> refused.account(10));
    }

    @Holds(promise = 38, says = "The input is empty afterwards, whatever happens.")
    static void readEmptiesTheInputWhateverHappens() {
        MapScales m = new MapScales();
        works(m, "m2", 1);
        Due.is("done", 0, () -> m.account(9));
        Due.fails("malformed", Due.ARGUMENT, () -> Due.readText(m, "m"));
        Due.is("malformed", 0, () -> m.account(9));
        Due.fails("not there", Due.STATE, () -> Due.readText(m, "k0"));
        Due.is("not there", 0, () -> m.account(9));
        Due.fails("refused", Due.REFUSED, () -> Due.readText(m, "m2"));
        Due.is("refused", 0, () -> m.account(9));
        Due.fails("full and malformed", Due.ARGUMENT, () -> Due.readText(m, "?".repeat(60)));
        Due.is("full and malformed", 0, () -> m.account(9));
        works(m, EIGHTEEN.substring(3) + "m2;m3;p0a", 20);
        Due.is("full and done", 0, () -> m.account(9));
    }

    @Holds(promise = 38, says = "It is one change.")
    static void readIsOneChange() {
        MapScales m = new MapScales();
        works(m, EIGHTEEN + "m2;p0a", 20);
        Due.is("of twenty commands", 1, () -> m.account(10));
        Due.is("undone at once", 0, () -> m.undo());
        Due.is("the scale", 1, () -> m.account(4));
        Due.is("the cells", 0, () -> m.account(0));
        for (int cell = 0; cell < 6; cell++) {
            m.paint(cell, 1);
        }
        works(m, "p6b;p7b;p8b", 3);
        Due.is("at most six", 6, () -> m.account(10));
        Due.is("undone at once", 5, () -> m.undo());
        Due.is("the cells", 6, () -> m.account(0));
    }

    @Holds(promise = 38, says = "Returns the number of commands.")
    static void readReturnsOneToTwenty() {
        works(new MapScales(), "p0a", 1);
        works(new MapScales(), "p0a;m2", 2);
        works(new MapScales(), EIGHTEEN + "m2", 19);
        works(new MapScales(), EIGHTEEN + "m2;m3", 20);
        works(new MapScales(), EIGHTEEN + "m2;p0a", 20);
    }

    @Holds(promise = 38, says = "Throws `IllegalArgumentException` if the input is malformed; the error position is then kept")
    static void readKeepsTheErrorPosition() {
        MapScales m = furnished();
        String before = Due.drawn(m);
        Due.fails("the input is empty", Due.ARGUMENT, () -> m.read());
        Due.is("at the first place", 0, () -> m.errorPosition());
        Due.fails("malformed", Due.ARGUMENT, () -> Due.readText(m, "p0a;p1?"));
        Due.is("at a later place", 6, () -> m.errorPosition());
        Due.is("all is as before", before, () -> Due.drawn(m));
        Due.is("no change", 5, () -> m.account(10));
        Due.reasonsAre(m, "the reason is as before", 1, 1);
        Due.is("the line is as before", "abB.....", () -> Due.line(m, 8));
    }

    @Holds(promise = 38, says = "A text consists of one or several commands with a semicolon between two of them")
    static void readNeedsACommandAndSemicolonsBetween() {
        breaksAt(0, "");
        breaksAt(0, ";");
        breaksAt(0, ";p0a");
        breaksAt(4, "p0a;");
        breaksAt(4, "p0a;;p1a");
        breaksAt(3, "p0ap1a");
        breaksAt(3, "p0a,p1a");
        breaksAt(3, "p0a ;p1a");
        breaksAt(4, "p0a; p1a");
        works(new MapScales(), "p0a;p1a", 2);
    }

    @Holds(promise = 38, says = "\"p\", a number for a cell, and \"a\" to \"d\" for a realm or \".\" for none paints it")
    static void readPaints() {
        MapScales m = new MapScales();
        works(m, "p0a;p00d;p63b;p09c;p9.", 5);
        Due.is("the first cell", 3, () -> m.realmAt(0));
        Due.is("the last cell", 1, () -> m.realmAt(63));
        Due.is("none", -1, () -> m.realmAt(9));
        for (String text : new String[] {"p0e", "p0`", "p0A", "p0/", "p0-", "p0;"}) {
            breaksAt(2, text);
        }
        breaksAt(1, "pa");
        breaksAt(1, "p-1a");
        breaksAt(3, "p0aa");
    }

    @Holds(promise = 38, says = "\"s\", a number for a cell, and \"a\" to \"d\" shaves a border")
    static void readShaves() {
        MapScales m = Due.map("abb", "cdd");
        works(m, "s1a;s01b;s9c;s09d", 4);
        Due.is("shaved", 4, () -> m.account(5));
        for (String text : new String[] {"s1.", "s1e", "s1`", "s1A", "s1;"}) {
            breaksAt(2, text);
        }
        breaksAt(1, "sa");
        breaksAt(3, "s1aa");
    }

    @Holds(promise = 38, says = "\"m\" and a digit tells the scale")
    static void readTellsTheScale() {
        MapScales m = new MapScales();
        works(m, "m9;m1;m2", 3);
        Due.is("the scale", 2, () -> m.account(4));
        breaksAt(1, "m");
        breaksAt(1, "ma");
        breaksAt(1, "m;");
        breaksAt(1, "m/");
        breaksAt(1, "m:");
        breaksAt(2, "m10");
        breaksAt(2, "m01");
    }

    @Holds(promise = 38, says = "\"r\", a number for a cell, \":\", steps, \"=\" and a number for miles draws a river")
    static void readDrawsRivers() {
        MapScales m = new MapScales();
        works(m, "r0:e=0;r63:nwnwnwnwnwnw=99;r09:s=01", 3);
        Due.answers("the shortest", what -> m.riverOf(0, what), 0, 1, 1, 0, 1, 0);
        Due.answers("the longest", what -> m.riverOf(1, what), 63, 12, 9, 99, 12, 0);
        Due.answers("zeros ahead", what -> m.riverOf(2, what), 9, 1, 17, 1, 1, 0);
        breaksAt(1, "r:e=1");
        breaksAt(2, "r0e=1");
        breaksAt(3, "r0:=1");
        breaksAt(4, "r0:e1");
        breaksAt(5, "r0:e=");
        breaksAt(5, "r0:e=;");
        breaksAt(5, "r0:e=-1");
        breaksAt(2, "r0/e=1");
    }

    @Holds(promise = 38, says = "\"k\" and a digit drops one")
    static void readDrops() {
        MapScales m = new MapScales();
        works(m, "r0:e=0;r0:e=1;r0:e=2;r0:e=3;k3;k0", 6);
        Due.is("rivers", 2, () -> m.account(1));
        Due.is("the second one", 1, () -> m.riverOf(0, 3));
        Due.is("the third one", 2, () -> m.riverOf(1, 3));
        breaksAt(1, "k");
        breaksAt(1, "k;");
        breaksAt(1, "k-1");
        breaksAt(2, "k00");
    }

    @Holds(promise = 38, says = "\"d\", a number for a cell, \"/\" and a number for the price puts a dragon onto it")
    static void readPutsDragons() {
        MapScales m = Due.map("a.......", ".b");
        m.paint(63, 2);
        works(m, "d0/1;d63/50;d09/09", 3);
        Due.answers("the first cell", what -> m.dragonOf(0, what), 0, 1, 0);
        Due.answers("the last cell", what -> m.dragonOf(1, what), 63, 50, 2);
        Due.answers("zeros ahead", what -> m.dragonOf(2, what), 9, 9, 1);
        breaksAt(1, "d/1");
        breaksAt(2, "d0:1");
        breaksAt(3, "d0/");
        breaksAt(3, "d0/;");
        breaksAt(3, "d0/a");
    }

    @Holds(promise = 38, says = "\"f\" and a digit scares one away.")
    static void readScares() {
        MapScales m = Due.map("abcda");
        for (int cell = 0; cell < 5; cell++) {
            m.dragon(cell, 10 + cell);
        }
        works(m, "f4;f0", 2);
        Due.answers("cells of", dragon -> m.dragonOf(dragon, 0), 1, 2, 3);
        Due.is("lost", 24, () -> m.account(8));
        breaksAt(1, "f");
        breaksAt(1, "fa");
        breaksAt(2, "f00");
    }

    @Holds(promise = 38, says = "Numbers have one or two digits; steps are 1 to 12 of n, e, s and w.")
    static void readTakesNoMoreDigitsAndSteps() {
        breaksAt(3, "p000a");
        breaksAt(3, "p100a");
        breaksAt(3, "s100a");
        breaksAt(3, "r100:e=1");
        breaksAt(7, "r0:e=100");
        breaksAt(3, "d100/1");
        breaksAt(5, "d0/100");
        breaksAt(1, "p/a");
        breaksAt(1, "p:a");
        breaksAt(15, "r0:ewewewewewewe=1");
        breaksAt(4, "r0:eE=1");
        breaksAt(3, "r0:a=1");
        breaksAt(4, "r0:e e=1");
        works(new MapScales(), "r0:ewewewewewew=12", 1);
    }

    @Holds(promise = 38, says = "if a command tells a cell, a river or a dragon that there is not")
    static void readKnowsNothingOutside() {
        for (String text : new String[] {"p64a", "p99.", "s64a", "s99d", "r64:e=1", "r99:n=1", "d64/1", "d99/50"}) {
            missesSomething(text);
        }
        for (String text : new String[] {"k1", "k9", "f1", "f9", "k0;k0", "f0;f0", "r0:e=1;k2", "p2a;f0"}) {
            missesSomething(text);
        }
        works(furnished(), "k0;f0", 2);
    }

    @Holds(promise = 38, says = "or a number out of range")
    static void readKnowsNoOtherNumbers() {
        for (String text : new String[] {"m0", "d0/0", "d0/00", "d0/51", "d0/99", "m2;m0"}) {
            missesSomething(text);
        }
        works(furnished(), "m9;m1;d0/50;d1/1", 4);
    }

    @Holds(promise = 38, says = "Throws `IllegalStateException` if a command tells a cell, a river or a dragon that there is "
            + "not, or a number out of range")
    static void readMissesSomethingAheadOfRefusing() {
        missesSomething("d64/0");
        missesSomething("d63/0");
        missesSomething("d2/51");
        missesSomething("r64:n=0");
        MapScales full = furnished();
        works(full, "r0:e=1;r0:e=1;r0:e=1", 3);
        Due.fails("a fifth one, from nowhere", Due.STATE, () -> Due.readText(full, "r64:e=1"));
    }

    @Holds(promise = 38, says = "Throws `UnsupportedOperationException` if it is refused for the reason 10")
    static void readIsRefusedAtTheFirstAndTheLastCommand() {
        isRefused(new MapScales(), "m1", 10, 0, 1, 1);
        isRefused(new MapScales(), "m1;p0a", 10, 0, 1, 1);
        isRefused(new MapScales(), "m2;m2", 10, 1, 1, 2);
        isRefused(new MapScales(), EIGHTEEN + "m2;m2", 10, 19, 1, 2);
        isRefused(new MapScales(), EIGHTEEN + "m2;p0.", 10, 19, 1, -1);
    }

    @Holds(promise = 38, says = "with what the command is refused for as its cause")
    static void readTellsEachCause() {
        isRefused(furnished(), "p0a", 10, 0, 1, 0);
        isRefused(furnished(), "p9.", 10, 0, 1, -1);
        isRefused(furnished(), "s0a", 10, 0, 1, 0);
        isRefused(furnished(), "m2;s3b", 10, 1, 2, 3, 3, 3);
        isRefused(furnished(), "s2a", 10, 0, 2, 2, 4, 0);
        isRefused(furnished(), "s0b", 10, 0, 2, 0, 5, 0);
        isRefused(furnished(), "r0:e=1;r0:e=1;r0:e=1;r0:e=1", 10, 3, 6, 4);
        isRefused(furnished(), "r0:ewn=1", 10, 0, 7, 2);
        isRefused(furnished(), "d3/1", 10, 0, 3, 3);
        isRefused(furnished(), "m2;d2/1", 10, 1, 8, 0);
        isRefused(furnished(), "p3a;p4a;d0/1;d1/1;d3/1;d4/1;p5a;d5/1", 10, 7, 6, 5);
        isRefused(furnished(), "d1/50;p3b;d3/46", 10, 2, 9, 45);
    }

    @Holds(promise = 38, says = "the reason is then kept")
    static void readKeepsTheReason() {
        MapScales m = furnished();
        Due.fails("refused", Due.REFUSED, () -> Due.readText(m, "s0b"));
        works(m, "m2", 1);
        Due.fails("not there", Due.STATE, () -> Due.readText(m, "m0"));
        Due.fails("malformed", Due.ARGUMENT, () -> Due.readText(m, "m"));
        Due.reasonsAre(m, "kept with its causes", 10, 0, 2, 0, 5, 0);
        Due.fails("refused", Due.REFUSED, () -> Due.readText(m, "m3;m3"));
        Due.reasonsAre(m, "the next one", 10, 1, 1, 3);
    }

    @Holds(promise = 38, says = "The first command that cannot be done decides what is thrown.")
    static void readFailsByTheFirstCommand() {
        MapScales m = furnished();
        Due.fails("not there, refused", Due.STATE, () -> Due.readText(m, "m0;m1"));
        Due.reasonsAre(m, "none of this text", 1, 1);
        MapScales other = furnished();
        isRefused(other, "p0a;m0", 10, 0, 1, 0);
        isRefused(other, "m5;m5;m0;m1", 10, 1, 1, 5);
    }

    @Holds(promise = 38, says = "If several exceptions apply, the one that is documented first is thrown.")
    static void readMissesTheFormFirst() {
        breaksAt(3, "m0;");
        breaksAt(5, "p64a;");
        breaksAt(3, "m1;x");
        breaksAt(9, "m0;m1;k9;");
    }

    // ---- promise 39: errorPosition

    @Holds(promise = 39, says = "Returns the error position that was kept last; it stays until the next one is kept.")
    static void errorPositionStays() {
        MapScales m = new MapScales();
        Due.fails("malformed", Due.ARGUMENT, () -> Due.readText(m, "m2;m?"));
        m.save();
        works(m, "p1a", 1);
        Due.fails("not there", Due.STATE, () -> Due.readText(m, "k0"));
        Due.fails("refused", Due.REFUSED, () -> Due.readText(m, "p1a"));
        Due.fails("no steps", Due.STATE, () -> m.river(0, 1));
        m.undo();
        m.restore();
        Due.is("it stays", 4, () -> m.errorPosition());
        Due.is("asking leaves it", 4, () -> m.errorPosition());
        Due.fails("malformed", Due.ARGUMENT, () -> m.read());
        Due.is("the next one", 0, () -> m.errorPosition());
    }

    @Holds(promise = 39, says = "is the smallest index k such that no text starts with the first k + 1 characters of it")
    static void errorPositionIsTheFirstPlaceThatNoTextHas() {
        breaksAt(0, "x");
        breaksAt(0, "P0a");
        breaksAt(0, " p0a");
        breaksAt(0, "0");
        breaksAt(1, "p;x?");
        breaksAt(2, "p0?");
        breaksAt(3, "p63?");
        breaksAt(3, "p0a?");
        breaksAt(4, "p0a;?");
        breaksAt(6, "p0a;p1?");
        breaksAt(2, "s0?");
        breaksAt(2, "r0?");
        breaksAt(3, "r00?");
        breaksAt(3, "r0:?");
        breaksAt(4, "r0:e?");
        breaksAt(15, "r0:ewewewewewew?");
        breaksAt(5, "r0:e=?");
        breaksAt(6, "r0:e=1?");
        breaksAt(7, "r0:e=12?");
        breaksAt(2, "d0?");
        breaksAt(3, "d0/?");
        breaksAt(4, "d0/1?");
        breaksAt(5, "d0/12?");
        breaksAt(2, "m1?");
        breaksAt(2, "k0?");
        breaksAt(2, "f0?");
        breaksAt(59, EIGHTEEN + "m2;m3x");
        breaksAt(0, "x".repeat(60));
    }

    @Holds(promise = 39, says = "if there is no such index, it is the length of the text.")
    static void errorPositionIsTheLengthIfItBreaksOff() {
        String[] texts = {"", "p", "p0", "p63", "p0a;", "s", "s1", "s12", "m", "r", "r0", "r63", "r0:", "r0:e", "r0:ewewewewewew",
            "r0:e=", "k", "d", "d0", "d63", "d0/", "f", "p0a;m", "p64", "r0:e=1;"};
        for (String text : texts) {
            breaksAt(text.length(), text);
        }
        breaksAt(59, EIGHTEEN + "m2;p6");
        breaksAt(60, EIGHTEEN + "m2;m3;");
        breaksAt(60, EIGHTEEN + "m2;p63");
    }

    @Holds(promise = 39, says = "Throws `NoSuchElementException` if none was kept")
    static void errorPositionNeedsAMalformedText() {
        MapScales m = new MapScales();
        Due.keeps(m, "none yet", Due.ELEMENT, () -> m.errorPosition());
        works(m, "m2", 1);
        Due.fails("not there", Due.STATE, () -> Due.readText(m, "k0"));
        Due.fails("refused", Due.REFUSED, () -> Due.readText(m, "m2"));
        Due.fails("no steps", Due.STATE, () -> Due.drawRiver(m, 0, "x", 1));
        Due.fails("none was malformed", Due.ELEMENT, () -> m.errorPosition());
    }

    // ---- promise 40: reason

    @Holds(promise = 40, says = "Returns the reason that was kept last, one of its causes, or the detail of one.")
    static void reasonIsTheLastOne() {
        MapScales m = Due.map("ab");
        Due.fails("three deep", Due.REFUSED, () -> Due.readText(m, "s0b"));
        Due.reasonsAre(m, "three deep", 10, 0, 2, 0, 5, 0);
        Due.fails("two deep", Due.REFUSED, () -> m.shave(2, 1));
        Due.reasonsAre(m, "two deep", 2, 2, 3, 2);
        Due.fails("one deep", Due.REFUSED, () -> m.scale(1));
        Due.reasonsAre(m, "one deep", 1, 1);
        m.save();
        m.scale(2);
        m.undo();
        m.restore();
        Due.fails("another exception", Due.ARGUMENT, () -> m.scale(0));
        Due.reasonsAre(m, "it stays", 1, 1);
    }

    @Holds(promise = 40, says = "`depth`: 0 for the reason, 1 for its cause, 2 for the cause of this")
    static void reasonIsThreeDeepAtMost() {
        MapScales m = Due.map("ab");
        Due.fails("refused", Due.REFUSED, () -> Due.readText(m, "m2;m3;s1d"));
        Due.answers("reason", depth -> m.reason(depth, false), 10, 2, 4);
        Due.answers("detail", depth -> m.reason(depth, true), 2, 1, 3);
    }

    @Holds(promise = 40, says = "Throws `IllegalArgumentException` if the depth is not 0 to 2")
    static void reasonKnowsNoOtherDepths() {
        for (boolean isDetail : new boolean[] {false, true}) {
            Due.outside("reason", Due.ARGUMENT, TextBounds::furnished, (m, depth) -> m.reason(depth, isDetail), -1, 3);
            Due.outside("reason, none kept", Due.ARGUMENT, MapScales::new, (m, depth) -> m.reason(depth, isDetail), -1, 3);
        }
    }

    @Holds(promise = 40, says = "Throws `NoSuchElementException` if none was kept")
    static void reasonNeedsARefusal() {
        MapScales m = new MapScales();
        Due.reasonsAre(m, "none yet");
        works(m, "m2", 1);
        Due.fails("no such cell", Due.INDEX, () -> m.paint(64, 0));
        Due.fails("malformed", Due.ARGUMENT, () -> Due.readText(m, "m"));
        Due.fails("not there", Due.STATE, () -> Due.readText(m, "m0"));
        Due.is("asking whether it could", false, () -> m.couldShave(0, 0));
        Due.reasonsAre(m, "none was refused");
    }

    @Holds(promise = 40, says = "or there is no such cause")
    static void reasonWithoutACause() {
        MapScales m = Due.map("ab");
        Due.fails("one deep", Due.REFUSED, () -> m.paint(0, 0));
        Due.is("the reason", 1, () -> m.reason(0, false));
        Due.fails("its cause", Due.ELEMENT, () -> m.reason(1, false));
        Due.fails("its detail", Due.ELEMENT, () -> m.reason(1, true));
        Due.fails("two deep", Due.REFUSED, () -> m.shave(0, 1));
        Due.is("its cause", 5, () -> m.reason(1, false));
        Due.fails("the cause of this", Due.ELEMENT, () -> m.reason(2, false));
        Due.fails("its detail", Due.ELEMENT, () -> m.reason(2, true));
    }

    @Holds(promise = 40, says = "A refusal without a cause has none told.")
    static void reasonsWithoutCausesForgetTheOnesBefore() {
        forgetsCauses(m -> m.scale(1), 1, 1);
        forgetsCauses(m -> m.paint(0, 0), 1, 0);
        forgetsCauses(m -> m.shave(0, 0), 1, 0);
        forgetsCauses(m -> Due.drawRiver(m, 0, "e", 1), 6, 4);
        forgetsCauses(m -> m.drop(0) + Due.drawRiver(m, 0, "n", 1), 7, 0);
        forgetsCauses(m -> m.dragon(5, 1), 3, 5);
        forgetsCauses(m -> m.dragon(1, 1), 8, 1);
        forgetsCauses(m -> m.dragon(2, 1), 9, 0);
    }

    private static void forgetsCauses(Due.Change refused, int... reason) {
        MapScales m = Due.map("aaab");
        m.dragon(0, 50);
        m.dragon(1, 50);
        for (int river = 0; river < 4; river++) {
            Due.drawRiver(m, 0, "e", 1);
        }
        Due.fails("three deep", Due.REFUSED, () -> Due.readText(m, "s3c"));
        Due.reasonsAre(m, "three deep", 10, 0, 2, 3, 4, 2);
        Due.fails("one deep", Due.REFUSED, () -> refused.go(m));
        Due.reasonsAre(m, "one deep", reason);
    }

    @Holds(promise = 40, says = "Something is refused for the first of the reasons that apply, in the order in which its method "
            + "names them, with a detail, and perhaps with a cause, which is a reason with a detail again")
    static void reasonIsTheFirstThatApplies() {
        MapScales m = Due.map("a");
        Due.fails("1 ahead of 2 with 4", Due.REFUSED, () -> m.shave(0, 0));
        Due.reasonsAre(m, "1 ahead of 2 with 4", 1, 0);
        Due.fails("3 ahead of 4", Due.REFUSED, () -> m.shave(63, 0));
        Due.reasonsAre(m, "3 ahead of 4", 2, 63, 3, 63);
        Due.fails("4 ahead of 5", Due.REFUSED, () -> m.shave(0, 1));
        Due.reasonsAre(m, "4 ahead of 5", 2, 0, 4, 1);
        for (int river = 0; river < 4; river++) {
            Due.drawRiver(m, 0, "e", 1);
        }
        Due.fails("6 ahead of 7", Due.REFUSED, () -> Due.drawRiver(m, 0, "n", 1));
        Due.reasonsAre(m, "6 ahead of 7", 6, 4);
        m.dragon(0, 50);
        m.paint(1, 0);
        m.dragon(1, 50);
        Due.fails("8 ahead of 9", Due.REFUSED, () -> m.dragon(0, 1));
        Due.reasonsAre(m, "8 ahead of 9", 8, 0);
        m.paint(2, 0);
        Due.fails("9", Due.REFUSED, () -> m.dragon(2, 1));
        Due.reasonsAre(m, "9", 9, 0);
        for (int cell = 3; cell < 6; cell++) {
            m.paint(cell, 1);
            m.dragon(cell, 1);
        }
        Due.fails("6 ahead of 9", Due.REFUSED, () -> m.dragon(2, 1));
        Due.reasonsAre(m, "6 ahead of 9", 6, 5);
        Due.fails("8 ahead of 6", Due.REFUSED, () -> m.dragon(5, 1));
        Due.reasonsAre(m, "8 ahead of 6", 8, 4);
        Due.fails("3 ahead of 6", Due.REFUSED, () -> m.dragon(6, 1));
        Due.reasonsAre(m, "3 ahead of 6", 3, 6);
    }
}

/** Boundary cases of the promises 41 to 43, and of the sentences about changes and questions: undo, save and restore. */
final class HistoryBounds {
    private HistoryBounds() {
    }

    /** A map with something of all kinds, on which every change can be made; six changes are remembered. */
    private static MapScales furnished() {
        MapScales m = Due.map("abbb....", "c");
        Due.drawRiver(m, 0, "es", 1);
        Due.drawRiver(m, 63, "nwn", 3);
        m.dragon(0, 5);
        m.dragon(1, 6);
        return m;
    }

    /** The change is undone wholly, as the only one that is remembered and as the last of six. */
    private static void undoes(String call, Due.Change change) {
        MapScales six = furnished();
        undoes(six, call, 5, change);
        MapScales one = furnished();
        one.save();
        one.restore();
        undoes(one, call, 0, change);
    }

    private static void undoes(MapScales m, String call, int left, Due.Change change) {
        String before = Due.drawn(m);
        change.go(m);
        Due.is(call + " changes something", false, () -> before.equals(Due.drawn(m)));
        Due.is(call + " is remembered", left + 1, () -> m.account(10));
        Due.is("undo " + call, left, () -> m.undo());
        Due.is("undone " + call, before, () -> Due.drawn(m));
    }

    // ---- promise 41: undo

    @Holds(promise = 41, says = "Undoes the latest change that is remembered.")
    static void undoUndoesEveryKindOfChange() {
        undoes("paint", m -> m.paint(1, 3));
        undoes("paint to none", m -> m.paint(0, -1));
        undoes("shave", m -> m.shave(1, 0));
        undoes("scale", m -> m.scale(9));
        undoes("river", m -> Due.drawRiver(m, 9, "n", 0));
        undoes("drop", m -> m.drop(0));
        undoes("dragon", m -> m.dragon(8, 50));
        undoes("scare", m -> m.scare(0));
        undoes("read", m -> Due.readText(m, "p1a;s2a;m3;r0:e=1;k0;d8/5;f0"));
    }

    @Holds(promise = 41, says = "Returns the number of changes that are still remembered.")
    static void undoReturnsFiveToNone() {
        MapScales m = new MapScales();
        m.paint(0, 0);
        Due.is("the only one", 0, () -> m.undo());
        for (int cell = 0; cell < 6; cell++) {
            m.paint(cell, 0);
        }
        for (int left = 5; left >= 0; left--) {
            int want = left;
            Due.is("left", want, () -> m.undo());
            Due.is("left", want, () -> m.account(10));
        }
    }

    @Holds(promise = 41, says = "Throws `NoSuchElementException` if no change is remembered")
    static void undoNeedsAChange() {
        MapScales bare = new MapScales();
        Due.keeps(bare, "none yet", Due.ELEMENT, () -> bare.undo());
        MapScales m = Due.map("a");
        m.undo();
        Due.keeps(m, "none any more", Due.ELEMENT, () -> m.undo());
        MapScales seven = Due.map("abcdabc");
        for (int k = 0; k < 6; k++) {
            seven.undo();
        }
        Due.keeps(seven, "six of seven are undone", Due.ELEMENT, () -> seven.undo());
        MapScales refused = new MapScales();
        Due.fails("refused", Due.REFUSED, () -> refused.scale(1));
        Due.keeps(refused, "it was refused", Due.ELEMENT, () -> refused.undo());
    }

    @Holds(promise = 41, says = "A change is a call of paint, shave, scale, river, drop, dragon, scare or read that returns without "
            + "an exception.")
    static void callsThatThrowAreNoChanges() {
        MapScales m = furnished();
        m.undo();
        Due.fails("paint", Due.REFUSED, () -> m.paint(0, 0));
        Due.fails("paint", Due.INDEX, () -> m.paint(64, 0));
        Due.fails("paint", Due.ARGUMENT, () -> m.paint(0, 4));
        Due.fails("shave", Due.REFUSED, () -> m.shave(0, 1));
        Due.fails("shave", Due.INDEX, () -> m.shave(0, 4));
        Due.fails("scale", Due.REFUSED, () -> m.scale(1));
        Due.fails("scale", Due.ARGUMENT, () -> m.scale(0));
        Due.fails("river", Due.REFUSED, () -> Due.drawRiver(m, 0, "n", 1));
        Due.fails("river", Due.STATE, () -> m.river(0, 1));
        Due.fails("drop", Due.INDEX, () -> m.drop(2));
        Due.fails("dragon", Due.REFUSED, () -> m.dragon(0, 1));
        Due.fails("dragon", Due.ARGUMENT, () -> m.dragon(8, 51));
        Due.fails("scare", Due.INDEX, () -> m.scare(1));
        Due.fails("read", Due.ARGUMENT, () -> m.read());
        Due.fails("read", Due.STATE, () -> Due.readText(m, "m9;k9"));
        Due.fails("read", Due.REFUSED, () -> Due.readText(m, "m9;m9"));
        Due.is("five, as before", 5, () -> m.account(10));
        Due.is("the latest change is the dragon's", 4, () -> m.undo());
        Due.is("it is undone", 0, () -> m.account(2));
    }

    @Holds(promise = 41, says = "A change is a call of paint, shave, scale, river, drop, dragon, scare or read")
    static void otherCallsAreNoChanges() {
        MapScales m = Due.map("ab");
        m.append('e');
        m.row(0);
        m.save();
        m.isTrue();
        m.couldShave(0, 1);
        m.bestFold(true);
        Due.is("two, as before", 2, () -> m.account(10));
        m.undo();
        Due.is("undo is none", 1, () -> m.account(10));
        Due.is("the second cell is undone", -1, () -> m.realmAt(1));
        m.restore();
        Due.is("restore is none", 0, () -> m.account(10));
    }

    @Holds(promise = 41, says = "for at most 6 changes, of which the oldest one is forgotten for good when there would be more.")
    static void undoRemembersSixChanges() {
        for (int changes = 5; changes <= 14; changes++) {
            MapScales m = new MapScales();
            for (int cell = 0; cell < changes; cell++) {
                m.paint(cell, 1);
            }
            int undone = Math.min(changes, 6);
            Due.is("remembered", undone, () -> m.account(10));
            for (int left = undone - 1; left >= 0; left--) {
                int want = left;
                Due.is("left", want, () -> m.undo());
            }
            Due.is("cells of the oldest ones", changes - undone, () -> m.account(0));
            Due.fails("forgotten for good", Due.ELEMENT, () -> m.undo());
            m.paint(63, 2);
            Due.is("one is remembered", 0, () -> m.undo());
            Due.is("cells of the oldest ones", changes - undone, () -> m.account(0));
        }
    }

    @Holds(promise = 41, says = "of which the oldest one is forgotten for good")
    static void undoAndChangesTakeTurns() {
        MapScales m = Due.map("aaaaaaa");
        m.undo();
        m.undo();
        Due.is("five cells", 5, () -> m.account(0));
        for (int cell = 8; cell < 12; cell++) {
            m.paint(cell, 1);
        }
        Due.is("six again", 6, () -> m.account(10));
        for (int left = 5; left >= 0; left--) {
            int want = left;
            Due.is("left", want, () -> m.undo());
            Due.is("cells", 3 + want, () -> m.account(0));
        }
        Due.fails("none", Due.ELEMENT, () -> m.undo());
    }

    @Holds(promise = 41, says = "The object remembers everything except the reason, the input, the error position, the line and "
            + "what was saved, as it is just before a change")
    static void undoLeavesWhatIsNotRemembered() {
        MapScales m = Due.map("a");
        m.save();
        m.paint(1, 1);
        Due.fails("refused", Due.REFUSED, () -> m.scale(1));
        Due.fails("malformed", Due.ARGUMENT, () -> Due.readText(m, "p1?"));
        m.row(0);
        Due.type(m, "es");
        m.save();
        m.undo();
        Due.reasonsAre(m, "the reason", 1, 1);
        Due.is("the error position", 2, () -> m.errorPosition());
        Due.is("the line", "ab......", () -> Due.line(m, 8));
        Due.is("the input", 2, () -> m.account(9));
        m.restore();
        Due.is("what was saved", 1, () -> m.realmAt(1));
        Due.is("the input", 0, () -> m.river(0, 1));
        Due.is("its steps", 9, () -> m.riverOf(0, 2));
        m.undo();
        Due.is("the input of a river that is undone is empty", 0, () -> m.account(9));
    }

    @Holds(promise = 41, says = "The object remembers everything")
    static void undoTurnsCountersBack() {
        MapScales m = Due.map("abbb");
        m.dragon(0, 5);
        m.dragon(1, 6);
        m.dragon(2, 7);
        String before = Due.drawn(m);
        m.shave(1, 0);
        m.scare(1);
        m.paint(0, 3);
        Due.answers("won, lost", what -> m.realmOf(what, what + 3), 1, 1);
        Due.is("shaved", 1, () -> m.account(5));
        Due.is("refunded", 2, () -> m.account(6));
        Due.is("scared", 1, () -> m.account(7));
        Due.is("lost", 7, () -> m.account(8));
        m.undo();
        m.undo();
        m.undo();
        Due.is("all as before", before, () -> Due.drawn(m));
        Due.alike("account", 0, 5, 8, m::account);
    }

    // ---- promise 42: save

    @Holds(promise = 42, says = "Saves all that the history remembers for a change.")
    static void saveSavesEverything() {
        MapScales m = furnished();
        m.shave(1, 0);
        m.scare(0);
        m.scale(9);
        m.dragon(8, 7);
        String before = Due.drawn(m);
        m.save();
        Due.is("saving draws nothing", before, () -> Due.drawn(m));
        m.shave(2, 0);
        m.scare(0);
        m.scale(5);
        m.drop(0);
        m.dragon(0, 8);
        m.paint(0, -1);
        m.restore();
        Due.is("restored wholly", before, () -> Due.drawn(m));
    }

    @Holds(promise = 42, says = "Saves all that the history remembers")
    static void saveForgetsNoChange() {
        MapScales m = Due.map("ab");
        m.save();
        Due.is("two", 2, () -> m.account(10));
        Due.is("undo", 1, () -> m.undo());
        Due.is("undo", 0, () -> m.undo());
        m.restore();
        Due.answers("as it was saved, whatever was undone since", m::realmAt, 0, 1, -1);
    }

    @Holds(promise = 42, says = "What was saved before is replaced.")
    static void saveReplacesWhatWasSavedBefore() {
        MapScales m = new MapScales();
        m.save();
        m.paint(0, 3);
        m.save();
        m.paint(0, 1);
        m.restore();
        Due.is("the later one", 3, () -> m.realmAt(0));
        m.paint(0, -1);
        m.save();
        m.paint(0, 2);
        m.restore();
        Due.is("a bare one", 0, () -> m.account(0));
    }

    @Holds(promise = 42, says = "Returns how many rivers there are.")
    static void saveReturnsNoneToFour() {
        MapScales m = new MapScales();
        Due.is("none", 0, () -> m.save());
        for (int rivers = 1; rivers <= 4; rivers++) {
            Due.drawRiver(m, 0, "e", 1);
            int want = rivers;
            Due.is("rivers", want, () -> m.save());
        }
        m.drop(0);
        Due.is("rivers", 3, () -> m.save());
    }

    // ---- promise 43: restore

    @Holds(promise = 43, says = "Restores what was saved.")
    static void restoreRestoresABareAndAFullMap() {
        MapScales bare = new MapScales();
        String nothing = Due.drawn(bare);
        bare.save();
        Due.readText(bare, "p0b;p1a;d0/50;f0;r0:e=9;m9");
        bare.restore();
        Due.is("a bare map", nothing, () -> Due.drawn(bare));
        MapScales full = Due.map("abcda");
        for (int k = 0; k < 5; k++) {
            full.dragon(k, 10 + k);
        }
        for (int k = 0; k < 4; k++) {
            Due.drawRiver(full, 63 - k, "nw", 10 + k);
        }
        String before = Due.drawn(full);
        full.save();
        Due.readText(full, "f0;f0;f0;f0;f0;k0;k0;k0;k0;p0.;p1.");
        full.restore();
        Due.is("a full one", before, () -> Due.drawn(full));
    }

    @Holds(promise = 43, says = "It stays saved.")
    static void restoreLeavesItSaved() {
        MapScales m = Due.map("ab");
        m.save();
        for (int k = 0; k < 3; k++) {
            m.paint(0, 2);
            m.paint(5, 3);
            m.scale(9);
            m.restore();
            Due.answers("restored again", m::realmAt, 0, 1, -1, -1, -1, -1);
            Due.is("restored again", 1, () -> m.account(4));
        }
        m.restore();
        Due.is("restored twice in turn", 2, () -> m.account(0));
    }

    @Holds(promise = 43, says = "Returns how many rivers there are.")
    static void restoreReturnsNoneToFour() {
        for (int rivers = 0; rivers <= 4; rivers++) {
            MapScales m = new MapScales();
            for (int k = 0; k < rivers; k++) {
                Due.drawRiver(m, 0, "e", 1);
            }
            m.save();
            if (rivers > 0) {
                m.drop(0);
            } else {
                Due.drawRiver(m, 0, "e", 1);
            }
            int want = rivers;
            Due.is("rivers", want, () -> m.restore());
            Due.is("rivers", want, () -> m.account(1));
        }
    }

    @Holds(promise = 43, says = "Throws `IllegalStateException` if nothing was saved")
    static void restoreNeedsASave() {
        MapScales bare = new MapScales();
        Due.keeps(bare, "a new object", Due.STATE, () -> bare.restore());
        MapScales m = furnished();
        Due.keeps(m, "with changes", Due.STATE, () -> m.restore());
        Due.is("they are not forgotten", 5, () -> m.undo());
        m.save();
        Due.is("saved", 2, () -> m.restore());
    }

    @Holds(promise = 43, says = "restore forgets all of them.")
    static void restoreForgetsAllChanges() {
        MapScales m = furnished();
        m.save();
        m.restore();
        Due.is("none", 0, () -> m.account(10));
        Due.fails("nothing to undo", Due.ELEMENT, () -> m.undo());
        m.paint(63, 0);
        m.paint(62, 0);
        Due.is("two new ones", 2, () -> m.account(10));
        Due.is("undo", 1, () -> m.undo());
        Due.is("undo", 0, () -> m.undo());
        Due.fails("not the ones before", Due.ELEMENT, () -> m.undo());
        Due.is("as it was restored", 5, () -> m.account(0));
        MapScales none = Due.map("a");
        none.save();
        none.undo();
        none.restore();
        Due.is("without any", 0, () -> none.account(10));
    }

    @Holds(promise = 43, says = "The object remembers everything except the reason, the input, the error position, the line and "
            + "what was saved")
    static void restoreLeavesWhatIsNotRemembered() {
        MapScales m = Due.map("a");
        m.save();
        Due.fails("refused", Due.REFUSED, () -> m.scale(1));
        Due.fails("malformed", Due.ARGUMENT, () -> Due.readText(m, "p1?"));
        m.row(0);
        Due.type(m, "es");
        m.restore();
        Due.reasonsAre(m, "the reason", 1, 1);
        Due.is("the error position", 2, () -> m.errorPosition());
        Due.is("the line", "a.......", () -> Due.line(m, 8));
        Due.is("the input", 2, () -> m.account(9));
        Due.is("its steps", 0, () -> m.river(0, 1));
        Due.is("to its last cell", 9, () -> m.riverOf(0, 2));
        m.restore();
        Due.is("the input is not brought back", 0, () -> m.account(9));
    }

    // ---- sentences for all promises, at those that they touch most

    @Holds(promise = 9, says = "Methods whose documentation does not mention a change only answer a question.")
    static void questionsChangeNothing() {
        MapScales m = furnished();
        Due.fails("refused", Due.REFUSED, () -> m.shave(8, 0));
        Due.fails("malformed", Due.ARGUMENT, () -> Due.readText(m, "p1?"));
        m.row(0);
        Due.type(m, "es");
        String before = Due.whole(m);
        m.weight(0);
        m.weightAgain(0);
        m.border(0, 1);
        m.around(0);
        m.aroundAgain(0);
        m.parts(0);
        m.partsAgain(0);
        m.couldShave(8, 0);
        m.couldShave(0, 1);
        m.shavable(0);
        m.lies(true, 4);
        m.liesAgain(false, 4);
        m.bestFold(true);
        m.bestFold(false);
        m.wrong();
        m.bestScale();
        m.ranked(0);
        m.heaviest(0);
        m.isTrue();
        m.meanWrong();
        m.ownedShare();
        Due.is("all is as before", before, () -> Due.whole(m));
    }

    @Holds(promise = 2, says = "A method that throws an exception leaves the state unchanged, unless its documentation says "
            + "otherwise.")
    static void exceptionsLeaveTheState() {
        MapScales m = furnished();
        Due.fails("three deep", Due.REFUSED, () -> Due.readText(m, "m5;s8a"));
        Due.fails("malformed", Due.ARGUMENT, () -> Due.readText(m, "p1?"));
        m.row(0);
        Due.type(m, "es");
        String before = Due.whole(m);
        Due.fails("paint", Due.INDEX, () -> m.paint(64, 0));
        Due.fails("paint", Due.ARGUMENT, () -> m.paint(0, 4));
        Due.fails("shave", Due.INDEX, () -> m.shave(0, 4));
        Due.fails("scale", Due.ARGUMENT, () -> m.scale(10));
        Due.fails("drop", Due.INDEX, () -> m.drop(2));
        Due.fails("dragon", Due.ARGUMENT, () -> m.dragon(0, 0));
        Due.fails("scare", Due.INDEX, () -> m.scare(2));
        Due.fails("row", Due.INDEX, () -> m.row(8));
        Due.fails("tell", Due.INDEX, () -> m.tell(2));
        Due.fails("append", Due.ARGUMENT, () -> m.append((char) 31));
        Due.fails("restore", Due.STATE, () -> m.restore());
        Due.fails("character", Due.ELEMENT, () -> m.character(8));
        Due.fails("reason", Due.ARGUMENT, () -> m.reason(3, true));
        Due.fails("account", Due.ARGUMENT, () -> m.account(11));
        Due.is("all is as before", before, () -> Due.whole(m));
        Due.is("the input too", 2, () -> m.river(0, 1));
        Due.is("its last cell", 9, () -> m.riverOf(2, 2));
    }

    @Holds(promise = 2, says = "A method that throws an exception leaves the state unchanged")
    static void refusalsLeaveAllButTheReason() {
        MapScales m = furnished();
        Due.fails("malformed", Due.ARGUMENT, () -> Due.readText(m, "p1?"));
        m.row(0);
        String before = Due.drawn(m);
        Due.fails("paint", Due.REFUSED, () -> m.paint(0, 0));
        Due.fails("shave", Due.REFUSED, () -> m.shave(0, 1));
        Due.fails("scale", Due.REFUSED, () -> m.scale(1));
        Due.fails("river", Due.REFUSED, () -> Due.drawRiver(m, 0, "ewn", 1));
        Due.fails("dragon", Due.REFUSED, () -> m.dragon(0, 1));
        Due.fails("read", Due.REFUSED, () -> Due.readText(m, "p1a;s2a;m3;r0:e=1;k0;d8/5;f0;m3"));
        Due.is("drawn as before", before, () -> Due.drawn(m));
        Due.is("changes", 6, () -> m.account(10));
        Due.is("the error position", 2, () -> m.errorPosition());
        Due.is("the line", "ABbb....", () -> Due.line(m, 8));
    }
}

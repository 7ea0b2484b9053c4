/** The edges of promises 25 to 27; above each test stands its sentence. */
public final class EdgesOfUndoTest {
    private static final int MIN = Integer.MIN_VALUE, MAX = Integer.MAX_VALUE;

    public static void main(String[] args) {
        nothingToUndo();
        sixStatesAtMost();
        recordedAfterUndo();
        alsoIfNothingIsDifferent();
        everyKindOfChangeIsUndone();
        manyStepsBack();
        undoBringsWhatIsKnownBack();
        undoBringsASingleByteBack();
        undoKeepsTheSlots();
        slotsAtTheirEdges();
        saveReturnsTheTick();
        saveOverwrites();
        saveIsNoChange();
        nothingWasSaved();
        restoreIsAChange();
        theSlotKeepsIt();
        restoreOfANewObject();
        restoreBringsEverythingBack();
        restoreBringsWhatIsKnownBack();
        Checks.finish();
    }

    /** "NOT_POSSIBLE if there is none" */
    private static void nothingToUndo() {
        StubbornBridges x = new StubbornBridges();
        Checks.due("25: new", x.undo(), -5);
        x.ticks(1);
        Checks.due("25: the only one", x.undo(), 0);
        int[] before = Checks.everything(x);
        for (int i = 0; i < 3; i++) Checks.due("25: none any more", x.undo(), -5);
        Checks.same("25: nothing changes", Checks.everything(x), before);
        x.send(0, 1, 0, 0, 41);
        Checks.due("25: an error is none", x.undo(), -5);
    }

    /** "A history of at most 6 states is kept"; "when one more is recorded, the oldest one is dropped" */
    private static void sixStatesAtMost() {
        for (int changes = 0; changes <= 20; changes++) {
            StubbornBridges x = new StubbornBridges();
            for (int i = 1; i <= changes; i++) x.ticks(i);
            int kept = Math.min(6, changes), tick = changes * (changes + 1) / 2;
            Checks.due("25: changes " + changes, x.count(8), kept);
            for (int i = 1; i <= kept; i++) {
                Checks.due("25: left of " + changes, x.undo(), kept - i);
                Checks.due("25: told", x.count(8), kept - i);
                tick -= changes + 1 - i;
                Checks.due("25: the tick before " + i + " of " + changes, x.count(0), tick);
            }
            Checks.due("25: no more of " + changes, x.undo(), -5);
            Checks.due("25: the tick stays", x.count(0), tick);
        }
    }

    /** What is undone makes place again, wherever the history is. */
    private static void recordedAfterUndo() {
        for (int first = 0; first <= 13; first++) {
            for (int back = 0; back <= Math.min(6, first); back++) {
                StubbornBridges x = new StubbornBridges();
                for (int i = 1; i <= first; i++) x.ticks(i);
                for (int i = 0; i < back; i++) x.undo();
                int had = Math.min(6, first) - back, tick = x.count(0);
                for (int i = 1; i <= 4; i++) {
                    x.ticks(100 * i);
                    Checks.due("25: kept then", x.count(8), Math.min(6, had + i));
                }
                for (int i = 4; i >= 1; i--) {
                    x.undo();
                    Checks.due("25: tick " + first + ", " + back + ", " + i, x.count(0), tick + 50 * i * (i - 1));
                }
            }
        }
    }

    /** "(also if nothing is different then; a route() that returns NONE, too)" */
    private static void alsoIfNothingIsDifferent() {
        StubbornBridges x = new StubbornBridges();
        x.bridge(0, 1, 100, 1, 1);
        x.undo();
        x.node(4, 0, 60, 8000);
        Checks.due("25: node", x.count(8), 1);
        x.route(0, 1, -6);
        Checks.due("25: route, none before and none now", x.count(8), 2);
        x.bridge(0, 1, 100, 1, 1);
        x.mend(0, 100, 0);
        Checks.due("25: mend", x.count(8), 4);
        x.save(0);
        x.restore(0);
        Checks.due("25: restore", x.count(8), 5);
        Checks.type(x, "r0");
        x.carryOut();
        Checks.due("25: carryOut", x.count(8), 6);
        Checks.due("25: still one bridge", x.count(1), 1);
        for (int i = 0; i < 4; i++) x.undo();
        Checks.due("25: no bridge", x.count(1), 0);
        Checks.due("25: two are left", x.count(8), 2);
    }

    private static boolean change(StubbornBridges x, int kind) {
        switch (kind) {
            case 0: return x.node(1, 2, 30, 70) >= 0;
            case 1: return x.bridge(1, 2, 16, 1, 1) >= 0;
            case 2: return x.mend(0, 32, 3) >= 0;
            case 3: return x.route(1, 2, -6) >= -6;
            case 4: return x.send(0, 2, 300, 9, 41) >= 0;
            case 5: return x.resend(0) >= 0;
            case 6: return x.forge(0, 10, 20, 0, 3) >= 0;
            case 7: return x.ticks(1) >= 0;
            case 8: return x.ticks(40) >= 0;
            case 9: return x.restore(1) >= 0;
            default:
                Checks.type(x, "f0+2*1;t1;s0>1*9;r0;t5");
                return x.carryOut() >= 0;
        }
    }

    /** A row of bridges with slices on them, bytes at the node 2 and a state in the slot 1. */
    private static StubbornBridges prepared() {
        StubbornBridges x = new StubbornBridges();
        x.bridge(0, 1, 64, 2, 9);
        x.bridge(1, 2, 40, 1, 9);
        x.route(0, 2, 0);
        x.route(1, 2, 1);
        x.save(1);
        x.mend(1, 40, 4);
        x.send(0, 2, 200, 5, 41);
        x.forge(0, 190, 10, 1, 5);
        x.forge(0, 33, 1, 0, 6);
        x.ticks(4);
        return x;
    }

    /** "Undoes the latest change: everything except the pad, the slots and the history is as it was before it." */
    private static void everyKindOfChangeIsUndone() {
        for (int kind = 0; kind <= 10; kind++) {
            StubbornBridges x = prepared();
            int[] before = Checks.everything(x);
            Checks.due("25: change " + kind, change(x, kind) ? 1 : 0, 1);
            int left = x.undo();
            int[] after = Checks.everything(x);
            Checks.due("25: how many of " + kind, left, after[8]);
            before[8] = after[8];
            Checks.same("25: change " + kind + " undone", after, before);
            // What comes later is as if it had never been.
            StubbornBridges y = prepared();
            x.ticks(60);
            y.ticks(60);
            int[] got = Checks.everything(x), want = Checks.everything(y);
            got[8] = want[8];
            Checks.same("25: later, " + kind, got, want);
        }
    }

    private static void manyStepsBack() {
        for (int first = 0; first <= 10; first++) {
            StubbornBridges x = prepared();
            int[][] before = new int[6][];
            for (int i = 0; i < 6; i++) {
                before[i] = Checks.everything(x);
                change(x, (first + 3 * i) % 11);
            }
            for (int i = 5; i >= 0; i--) {
                Checks.due("25: steps back", x.undo(), i);
                int[] after = Checks.everything(x);
                after[8] = before[i][8];
                Checks.same("25: step " + i + " of " + first, after, before[i]);
            }
        }
    }

    /** The length of the whole and the bytes that lie farthest are as they were, too. */
    private static void undoBringsWhatIsKnownBack() {
        StubbornBridges x = new StubbornBridges();
        x.send(0, 1, 20, 0, 41);
        x.forge(0, 0, 5, 0, 0);
        x.ticks(1);
        x.forge(0, 50, 5, 0, 0);
        x.ticks(1);
        x.undo();
        x.undo();
        Checks.due("25: five bytes", x.ofParcel(0, 8), 5);
        x.forge(0, 15, 5, 1, 0);
        x.ticks(1);
        Checks.due("25: no byte lies behind it", x.count(16), 0);
        Checks.due("25: the length", x.ofParcel(0, 9), 20);
        x.undo();
        x.undo();
        Checks.due("25: no length", x.ofParcel(0, 9), -6);
        x.forge(0, 30, 5, 0, 0);
        x.ticks(1);
        Checks.due("25: nothing is beyond it", x.count(16), 0);
        x.forge(0, 20, 5, 1, 0);
        x.ticks(1);
        Checks.due("25: a byte lies behind it", x.count(16), 1);
    }

    private static void undoBringsASingleByteBack() {
        for (int at : new int[] {0, 1, 6, 7, 3998, 3999}) {
            StubbornBridges x = new StubbornBridges();
            x.node(1, 1, 60, 8000);
            x.send(0, 1, 20, 0, 41);
            x.forge(0, at, 1, 0, 5);
            x.ticks(1);
            x.save(0);
            x.forge(0, at, 1, 0, 6);
            x.ticks(1);
            Checks.due("25: another byte at " + at, x.byteAt(0, at), Checks.byteOf(6, at));
            x.undo();
            Checks.due("25: the byte before it", x.byteAt(0, at), Checks.byteOf(5, at));
            x.ticks(1);
            x.restore(0);
            Checks.due("27: the byte that was saved", x.byteAt(0, at), Checks.byteOf(5, at));
            x.forge(0, at, 1, 0, 7);
            Checks.due("18: foreseen", x.stateIn(0, 1), 0);
            Checks.due("18: nothing changes", x.byteAt(0, at), Checks.byteOf(5, at));
            x.ticks(60);
            Checks.due("25: timed out", x.byteAt(0, at), -6);
            x.undo();
            Checks.due("25: there again", x.byteAt(0, at), Checks.byteOf(5, at));
            Checks.due("25: one byte", x.ofParcel(0, 8), 1);
        }
    }

    private static void undoKeepsTheSlots() {
        StubbornBridges x = new StubbornBridges();
        x.ticks(1);
        x.ticks(2);
        x.save(0);
        x.undo();
        x.save(1);
        x.undo();
        Checks.due("25: the tick", x.count(0), 0);
        Checks.due("27: the slot 0", x.restore(0), 3);
        Checks.due("27: the slot 1", x.restore(1), 1);
        x.undo();
        Checks.due("25: the tick of the slot 0", x.count(0), 3);
        x.undo();
        Checks.due("25: the tick before all", x.count(0), 0);
    }

    /** "slot: 0 or 1"; "BAD_VALUE if there is no such slot" */
    private static void slotsAtTheirEdges() {
        StubbornBridges x = new StubbornBridges();
        for (int slot : new int[] {MIN, -6, -1, 2, 3, MAX}) {
            Checks.due("26: no slot " + slot, x.save(slot), -2);
            Checks.due("27: no slot " + slot, x.restore(slot), -2);
        }
        Checks.due("27: nothing was recorded", x.count(8), 0);
        for (int slot = 0; slot <= 1; slot++) {
            Checks.due("27: nothing in " + slot, x.restore(slot), -5);
            Checks.due("26: slot " + slot, x.save(slot), 0);
            Checks.due("27: slot " + slot, x.restore(slot), 0);
        }
        for (int slot : new int[] {MIN, -1, 2, MAX}) {
            Checks.due("26: no slot " + slot, x.save(slot), -2);
            Checks.due("27: no slot " + slot, x.restore(slot), -2);
        }
    }

    /** "Returns the tick" */
    private static void saveReturnsTheTick() {
        StubbornBridges x = new StubbornBridges();
        for (int i = 0; i < 4; i++) {
            Checks.due("26: tick", x.save(i % 2), 7 * i);
            x.ticks(7);
        }
        Checks.due("27: tick", x.restore(0), 14);
        Checks.due("27: tick", x.restore(1), 21);
    }

    /** "and overwrites what was saved there" */
    private static void saveOverwrites() {
        StubbornBridges x = new StubbornBridges();
        x.bridge(0, 1, 100, 1, 1);
        x.send(0, 1, 9, 0, 41);
        x.forge(0, 3, 3, 1, 0);
        x.ticks(1);
        x.save(0);
        x.save(1);
        x.undo();
        x.undo();
        x.undo();
        x.undo();
        x.save(0);
        Checks.due("27: overwritten", x.restore(0), 0);
        Checks.due("27: no bridge", x.count(1), 0);
        Checks.due("27: no parcel", x.count(2) + x.count(3) + x.count(4), 0);
        Checks.due("27: the other one", x.restore(1), 1);
        Checks.due("27: a bridge", x.count(1), 1);
        Checks.due("27: bytes", x.ofParcel(0, 8), 3);
    }

    /** "Saves everything except the pad, the history and the slots"; it is no change. */
    private static void saveIsNoChange() {
        StubbornBridges x = prepared();
        int[] before = Checks.everything(x);
        for (int i = 0; i < 10; i++) x.save(i % 2);
        Checks.same("26: nothing changes", Checks.everything(x), before);
    }

    /** "NOT_POSSIBLE if nothing was saved in it" */
    private static void nothingWasSaved() {
        StubbornBridges x = new StubbornBridges();
        x.ticks(3);
        for (int slot = 0; slot <= 1; slot++) Checks.due("27: nothing in " + slot, x.restore(slot), -5);
        x.save(1);
        Checks.due("27: nothing in 0", x.restore(0), -5);
        Checks.due("27: one change", x.count(8), 1);
        Checks.due("27: saved in 1", x.restore(1), 3);
        StubbornBridges y = new StubbornBridges();
        Checks.due("27: nothing in the slot of another object", y.restore(1), -5);
    }

    /** "This is a change." */
    private static void restoreIsAChange() {
        StubbornBridges x = prepared();
        int[] before = Checks.everything(x);
        for (int i = 0; i < 8; i++) Checks.due("27: the tick then", x.restore(1), 0);
        Checks.due("27: six", x.count(8), 6);
        StubbornBridges y = prepared();
        y.restore(1);
        Checks.due("27: no parcel", y.count(2), 0);
        y.undo();
        int[] after = Checks.everything(y);
        after[8] = before[8];
        Checks.same("27: undone", after, before);
    }

    /** "Restores what was saved last in a slot, which keeps it." */
    private static void theSlotKeepsIt() {
        StubbornBridges x = prepared();
        x.save(0);
        int[] saved = Checks.everything(x);
        for (int kind = 0; kind <= 10; kind++) {
            change(x, kind);
            change(x, 8);
            Checks.due("27: the tick then", x.restore(0), saved[0]);
            int[] now = Checks.everything(x);
            now[8] = saved[8];
            Checks.same("27: after the change " + kind, now, saved);
        }
    }

    /** What is saved of a new object is empty. */
    private static void restoreOfANewObject() {
        StubbornBridges x = new StubbornBridges();
        x.save(0);
        int[] empty = Checks.everything(x);
        for (int i = 0; i < 8; i++) {
            x.node(i, 2, 1, 64);
            x.bridge(i, (i + 1) % 8, 16, 1, 1);
            x.route(i, (i + 1) % 8, i);
            x.mend(i, 17, 2);
            x.send(i, (i + 1) % 8, 30, i, 41);
            x.forge(i, 0, 10, 0, 0);
        }
        x.ticks(5);
        x.restore(0);
        int[] now = Checks.everything(x);
        now[8] = empty[8];
        Checks.same("27: empty", now, empty);
        Checks.due("27: the first bridge", x.bridge(3, 4, 50, 5, 6), 0);
        Checks.due("27: the first parcel", x.send(3, 4, 50, 5, 6), 0);
        int[] bridge = {3, 4, 50, 5, 6, 0, 0, 0, 0};
        for (int what = 0; what < 9; what++) Checks.due("27: as new, " + what, x.ofBridge(0, what), bridge[what]);
        int[] parcel = {3, 4, 50, 5, 0, 0, 1, 1, 0, -6, 0, -6, Checks.plainSum(5, 50), 0};
        for (int what = 0; what < 14; what++) Checks.due("27: as new, " + what, x.ofParcel(0, what), parcel[what]);
    }

    private static void restoreBringsEverythingBack() {
        StubbornBridges x = prepared();
        x.save(0);
        x.ticks(30);
        x.restore(0);
        StubbornBridges y = prepared();
        for (int i = 0; i < 70; i++) {
            x.ticks(1);
            y.ticks(1);
            for (int what = 0; what < 14; what++) Checks.due("27: later, " + what, x.ofParcel(0, what), y.ofParcel(0, what));
            for (int what = 0; what < 26; what++) {
                if (what != 8) Checks.due("27: later, count " + what, x.count(what), y.count(what));
            }
        }
    }

    private static void restoreBringsWhatIsKnownBack() {
        StubbornBridges x = new StubbornBridges();
        x.send(0, 1, 20, 0, 41);
        x.forge(0, 0, 5, 0, 0);
        x.ticks(1);
        x.save(0);
        x.forge(0, 50, 5, 1, 0);
        x.ticks(1);
        x.save(1);
        x.restore(0);
        x.forge(0, 10, 5, 1, 0);
        x.ticks(1);
        Checks.due("27: no byte lies behind it", x.ofParcel(0, 9), 15);
        x.restore(1);
        Checks.due("27: the length", x.ofParcel(0, 9), 55);
        x.forge(0, 10, 5, 1, 0);
        x.ticks(1);
        Checks.due("27: another end", x.count(16), 1);
    }
}

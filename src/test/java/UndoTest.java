/** Promises 25 to 27: undo, save, restore. */
public final class UndoTest {
    private static final int MIN = Integer.MIN_VALUE, MAX = Integer.MAX_VALUE;

    public static void main(String[] args) {
        everyChangeIsRecorded();
        whatIsNoChange();
        historyOfSix();
        undoBringsBack();
        undoBringsBytesBack();
        undoLeavesPadAndSlots();
        undoneThenNew();
        restoredThenNew();
        savedParcelsAreOthers();
        saveAnswers();
        restoreAnswers();
        restoreKeepsPadAndHistory();
        Checks.finish();
    }

    private static void everyChangeIsRecorded() {
        StubbornBridges x = new StubbornBridges();
        x.node(0, 0, 60, 8000);
        Checks.due("25: node, also if nothing is different", x.count(8), 1);
        x.bridge(0, 1, 100, 1, 1);
        Checks.due("25: bridge", x.count(8), 2);
        x.mend(0, 100, 0);
        Checks.due("25: mend", x.count(8), 3);
        x.route(0, 1, -6);
        Checks.due("25: route that returns NONE", x.count(8), 4);
        x.send(0, 1, 1, 0, 2);
        Checks.due("25: send", x.count(8), 5);
        for (int left = 4; left >= 0; left--) Checks.due("25: undo", x.undo(), left);
        Checks.due("25: none", x.undo(), -5);
        x.send(0, 1, 1, 0, 2);
        x.resend(0);
        Checks.due("25: resend", x.count(8), 2);
        x.forge(0, 0, 1, 0, 0);
        Checks.due("25: forge", x.count(8), 3);
        x.ticks(1);
        Checks.due("25: ticks", x.count(8), 4);
        x.save(0);
        x.restore(0);
        Checks.due("25: restore", x.count(8), 5);
        x.put(Checks.number("t501"));
        x.carryOut();
        Checks.due("25: carryOut", x.count(8), 6);
    }

    private static void whatIsNoChange() {
        StubbornBridges x = new StubbornBridges();
        x.send(0, 1, 1, 0, 2);
        x.send(0, 1, 1, 0, 2);
        x.undo();
        Checks.due("25: undo is no change", x.count(8), 1);
        x.put('r');
        x.fault();
        x.carryOut();
        x.wipe();
        x.save(0);
        x.save(1);
        x.doneIn(0);
        x.stateIn(0, 5);
        x.send(0, 0, 1, 0, 2);
        x.restore(2);
        x.ticks(0);
        x.resend(1);
        x.forge(0, 0, 0, 0, 0);
        x.bridge(0, 0, 100, 1, 1);
        x.node(0, 3, 60, 8000);
        x.mend(0, 100, 0);
        x.route(0, 0, -6);
        Checks.due("25: none of these is one", x.count(8), 1);
    }

    private static void historyOfSix() {
        StubbornBridges x = new StubbornBridges();
        for (int i = 1; i <= 9; i++) {
            x.ticks(i);
            Checks.due("25: at most six", x.count(8), Math.min(i, 6));
        }
        Checks.due("25: tick", x.count(0), 45);
        int[] ticks = {36, 28, 21, 15, 10, 6};
        for (int i = 0; i < 6; i++) {
            Checks.due("25: left", x.undo(), 5 - i);
            Checks.due("25: tick of " + i, x.count(0), ticks[i]);
        }
        Checks.due("25: the oldest ones are dropped", x.undo(), -5);
        Checks.due("25: tick stays", x.count(0), 6);
        x.ticks(1);
        x.ticks(2);
        Checks.due("25: filled anew", x.undo(), 1);
        Checks.due("25: the latest", x.count(0), 7);
    }

    private static void undoBringsBack() {
        StubbornBridges x = new StubbornBridges();
        x.node(1, 2, 7, 100);
        x.bridge(0, 1, 100, 3, 5);
        x.undo();
        x.undo();
        Checks.due("25: way", x.ofNode(1, 0), 0);
        Checks.due("25: time-out", x.ofNode(1, 1), 60);
        Checks.due("25: space", x.ofNode(1, 2), 8000);
        Checks.due("25: bridges", x.count(1), 0);
        Checks.due("25: no bridge", x.ofBridge(0, 0), -1);
        x.bridge(0, 1, 24, 2, 9);
        x.route(0, 1, 0);
        x.mend(0, 50, 2);
        x.undo();
        Checks.due("25: room", x.ofBridge(0, 2), 24);
        Checks.due("25: turns", x.ofBridge(0, 5), 0);
        x.undo();
        Checks.due("25: route", x.ofNode(0, 11), -6);
        x.route(0, 1, 0);
        x.mend(0, 24, 2);
        x.send(0, 1, 40, 0, 41);
        int[] before = Checks.all(x);
        x.ticks(1);
        x.ticks(30);
        x.undo();
        x.undo();
        int[] after = Checks.all(x);
        for (int i = 0; i < before.length; i++) Checks.due("25: all " + i, after[i], before[i]);
        x.ticks(31);
        Checks.due("25: and on from there", x.ofBridge(0, 7), 1);
        Checks.due("25: bytes there", x.ofParcel(0, 8), 24);
    }

    private static void undoBringsBytesBack() {
        StubbornBridges x = new StubbornBridges();
        x.node(1, 1, 60, 8000);
        x.send(0, 1, 100, 0, 41);
        x.forge(0, 10, 5, 0, 1);
        x.ticks(1);
        x.forge(0, 10, 5, 0, 2);
        x.ticks(1);
        Checks.due("25: new byte", x.byteAt(0, 10), 62 + 70);
        x.undo();
        Checks.due("25: old byte", x.byteAt(0, 10), 31 + 70);
        x.ticks(100);
        Checks.due("25: gone", x.byteAt(0, 10), -6);
        x.undo();
        Checks.due("25: there again", x.byteAt(0, 10), 31 + 70);
        x.undo();
        x.undo();
        Checks.due("25: before all", x.byteAt(0, 10), -6);
        Checks.due("25: none", x.ofParcel(0, 8), 0);
        x.undo();
        x.forge(0, 8, 1, 0, 1);
        x.ticks(1);
        x.save(0);
        x.ticks(100);
        x.forge(0, 8, 1, 0, 2);
        x.restore(0);
        Checks.due("27: a single byte", x.byteAt(0, 8), 31 + 56);
        Checks.due("27: and no other", x.byteAt(0, 10), -6);
    }

    private static void undoLeavesPadAndSlots() {
        StubbornBridges x = new StubbornBridges();
        x.ticks(3);
        x.put(Checks.number("t1"));
        x.save(0);
        x.undo();
        Checks.due("25: the pad stays", x.count(7), 2);
        Checks.due("26: the slot stays", x.restore(0), 3);
        x.undo();
        Checks.due("27: undone", x.count(0), 0);
        Checks.due("27: the slot stays", x.restore(0), 3);
    }

    private static void undoneThenNew() {
        StubbornBridges x = new StubbornBridges();
        x.bridge(0, 1, 16, 1, 1000);
        x.route(0, 1, 0);
        x.mend(0, 16, 1);
        x.send(0, 1, 8, 9, 41);
        x.ticks(2);
        for (int i = 0; i < 5; i++) x.undo();
        x.bridge(2, 3, 30, 4, 5);
        int[] bridge = {2, 3, 30, 4, 5, 0, 0, 0, 0};
        for (int what = 0; what < 9; what++) Checks.due("25: a new bridge, " + what, x.ofBridge(0, what), bridge[what]);
        x.send(4, 5, 8, 9, 41);
        int[] parcel = {4, 5, 8, 9, 1, 0, 1, 1, 0, -6, 0, -6};
        for (int what = 0; what < 12; what++) Checks.due("25: a new parcel, " + what, x.ofParcel(0, what), parcel[what]);
        Checks.due("25: dropped", x.ofParcel(0, 13), 0);
        Checks.due("25: made", x.count(4), 1);
        Checks.due("25: reasons", x.count(14), 0);
    }

    private static void restoredThenNew() {
        StubbornBridges x = new StubbornBridges();
        x.save(0);
        x.bridge(0, 1, 16, 1, 1000);
        x.route(0, 1, 0);
        x.mend(0, 16, 2);
        x.send(0, 1, 16, 9, 41);
        x.send(0, 1, 16, 9, 41);
        x.ticks(2);
        x.forge(1, 8, 8, 1, 9);
        x.ticks(2);
        x.restore(0);
        x.bridge(2, 3, 30, 4, 5);
        int[] bridge = {2, 3, 30, 4, 5, 0, 0, 0, 0};
        for (int what = 0; what < 9; what++) Checks.due("27: a new bridge, " + what, x.ofBridge(0, what), bridge[what]);
        x.send(4, 5, 2, 0, 40);
        x.send(5, 4, 2, 0, 40);
        int[] parcel = {5, 4, 2, 0, 0, 0, 1, 1, 0, -6, 0, -6, 7, 0};
        for (int what = 0; what < 14; what++) Checks.due("27: a new parcel, " + what, x.ofParcel(1, what), parcel[what]);
        x.forge(1, 20, 1, 0, 0);
        x.ticks(1);
        Checks.due("27: nothing is there from before", x.byteAt(1, 8), -6);
        Checks.due("27: one byte is there", x.ofParcel(1, 8), 1);
        Checks.due("27: no length from before", x.ofParcel(1, 9), -6);
    }

    /** Two slots with a bridge 0 and a parcel 0 each, which have nothing in common. */
    private static void savedParcelsAreOthers() {
        StubbornBridges x = new StubbornBridges();
        x.save(0);
        x.ticks(5);
        x.node(1, 0, 30, 100);
        x.bridge(0, 1, 24, 1, 10);
        x.bridge(1, 0, 24, 1, 10);
        x.route(0, 2, 0);
        x.route(1, 2, 1);
        x.mend(0, 24, 99);
        x.send(0, 2, 16, 200, 6);
        x.ticks(10);
        x.forge(0, 3, 4, 1, 9);
        x.ticks(1);
        Checks.due("26: one", x.save(1), 16);
        x.restore(0);
        x.node(1, 2, 7, 1000);
        x.bridge(5, 6, 1500, 50, 1);
        x.send(7, 3, 4000, 9, 41);
        x.forge(0, 1000, 1000, 0, 250);
        x.ticks(300);
        Checks.due("26: the other", x.save(0), 300);
        Checks.due("27: one", x.restore(1), 16);
        int[] node = {0, 30, 100};
        for (int what = 0; what < 3; what++) Checks.due("27: node, " + what, x.ofNode(1, what), node[what]);
        int[] bridge = {0, 1, 24, 1, 10, 99, 2, 0, 48};
        for (int what = 0; what < 9; what++) Checks.due("27: bridge, " + what, x.ofBridge(0, what), bridge[what]);
        int sum = 0;
        for (int i = 0; i < 16; i++) sum += (200 * 31 + i * 7) % 256;
        int[] parcel = {0, 2, 16, 200, 0, 0, 1, 0, 4, 7, 0, -6, sum, 1};
        for (int what = 0; what < 14; what++) Checks.due("27: parcel, " + what, x.ofParcel(0, what), parcel[what]);
        Checks.due("27: byte", x.byteAt(0, 3), (9 * 31 + 21) % 256);
        Checks.due("27: time-out", x.doneIn(0), 60);
        x.forge(0, 0, 6, 1, 9);
        x.ticks(1);
        Checks.due("27: bytes behind its end are there", x.count(16), 1);
        x.resend(0);
        x.ticks(20);
        Checks.due("27: three hops, as before", x.ofBridge(0, 6) + x.ofBridge(1, 6), 6);
        Checks.due("27: the other", x.restore(0), 300);
        int[] other = {7, 3, 4000, 9, 1, 3, 1, 0, 0, -6, 0, 60};
        for (int what = 0; what < 12; what++) Checks.due("27: other, " + what, x.ofParcel(0, what), other[what]);
        Checks.due("27: its tick", x.count(0), 300);
        x.undo();
        Checks.due("27: undone", x.ofParcel(0, 3), 200);
    }

    private static void saveAnswers() {
        StubbornBridges x = new StubbornBridges();
        Checks.due("26: tick", x.save(0), 0);
        x.ticks(7);
        Checks.due("26: tick", x.save(1), 7);
        Checks.due("26: no change", x.count(8), 1);
        for (int slot : new int[] {-1, 2, MIN, MAX}) Checks.due("26: no slot", x.save(slot), -2);
        Checks.due("26: the other slot", x.restore(0), 0);
        Checks.due("26: this slot", x.restore(1), 7);
        x.ticks(1);
        x.save(1);
        x.ticks(1);
        Checks.due("26: overwritten", x.restore(1), 8);
    }

    private static void restoreAnswers() {
        StubbornBridges x = new StubbornBridges();
        for (int slot : new int[] {-1, 2, MIN, MAX}) Checks.due("27: no slot", x.restore(slot), -2);
        Checks.due("27: nothing in it", x.restore(0), -5);
        x.node(1, 0, 10, 8000);
        x.send(0, 1, 100, 4, 41);
        x.forge(0, 0, 10, 0, 4);
        x.ticks(1);
        x.forge(0, 50, 10, 1, 4);
        x.save(1);
        Checks.due("27: nothing in the other", x.restore(0), -5);
        x.ticks(50);
        Checks.due("27: timed out", x.ofParcel(0, 5), 3);
        Checks.due("27: the tick then", x.restore(1), 1);
        Checks.due("27: on its way", x.ofParcel(0, 5), 0);
        Checks.due("27: bytes", x.byteAt(0, 9), (4 * 31 + 63) % 256);
        Checks.due("27: slices", x.count(3), 1);
        x.ticks(1);
        Checks.due("27: it goes on", x.ofParcel(0, 9), 60);
        Checks.due("27: it is kept", x.restore(1), 1);
        Checks.due("27: as it was", x.ofParcel(0, 9), -6);
    }

    private static void restoreKeepsPadAndHistory() {
        StubbornBridges x = new StubbornBridges();
        x.save(0);
        x.ticks(2);
        x.ticks(2);
        x.put('t');
        x.restore(0);
        Checks.due("27: the pad stays", x.count(7), 1);
        Checks.due("27: a change", x.count(8), 3);
        Checks.due("27: undone", x.undo(), 2);
        Checks.due("27: the tick before", x.count(0), 4);
        x.undo();
        Checks.due("27: the tick before that", x.count(0), 2);
    }
}

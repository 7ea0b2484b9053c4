/** Promises 6 to 9, and the terms "A tick" and "Putting together". */
public final class ParcelsTest {
    private static final int MIN = Integer.MIN_VALUE, MAX = Integer.MAX_VALUE;

    public static void main(String[] args) {
        sendAnswers();
        sendTooMany();
        resendAnswers();
        forgeAnswers();
        ticksAnswers();
        dropsOnTheWay();
        cutting();
        fullOfSlices();
        turns();
        overtaking();
        orderWithinATick();
        pacesAndDelays();
        wholesAndEnds();
        ways();
        spaces();
        refusedThenSpace();
        timeOuts();
        wholeAndBroken();
        Checks.finish();
    }

    /** Nodes 0 and 1 with a bridge 0 from 0 to 1 and its route. */
    private static StubbornBridges pair(int room, int delay, int pace) {
        StubbornBridges x = new StubbornBridges();
        x.bridge(0, 1, room, delay, pace);
        x.route(0, 1, 0);
        return x;
    }

    private static void sendAnswers() {
        StubbornBridges x = new StubbornBridges();
        Checks.due("6: first", x.send(0, 1, 1, 0, 2), 0);
        Checks.due("6: most", x.send(7, 0, 4000, 255, 41), 1);
        int[] want = {7, 0, 4000, 255, 1, 0, 1, 1, 0, -6, 0, -6};
        for (int what = 0; what < want.length; what++) Checks.due("6: of 1, " + what, x.ofParcel(1, what), want[what]);
        Checks.due("6: not to be cut", x.ofParcel(0, 4), 0);
        Checks.due("6: arrives now", x.count(9), 0);
        Checks.due("6: made", x.count(4), 2);
        Checks.due("6: under way", x.count(3), 2);
        for (int node : new int[] {-1, 8, MIN, MAX}) {
            Checks.due("6: no from", x.send(node, 1, 0, -1, 0), -1);
            Checks.due("6: no to", x.send(1, node, 0, -1, 0), -1);
        }
        Checks.due("6: same", x.send(3, 3, 0, -1, 0), -1);
        for (int size : new int[] {0, 4001, MIN, MAX}) Checks.due("6: size", x.send(0, 1, size, 0, 41), -2);
        for (int seed : new int[] {-1, 256, MIN, MAX}) Checks.due("6: seed", x.send(0, 1, 9, seed, 41), -2);
        for (int how : new int[] {-1, 0, 1, 42, MIN, MAX}) Checks.due("6: how", x.send(0, 1, 9, 0, how), -2);
        Checks.due("6: errors send nothing", x.count(2), 2);
        Checks.due("6: errors make nothing", x.count(4), 2);
        Checks.due("6: least how that cuts", x.send(0, 1, 9, 0, 3), 2);
        Checks.due("6: it may be cut", x.ofParcel(2, 4), 1);
    }

    private static void sendTooMany() {
        StubbornBridges x = new StubbornBridges();
        for (int i = 0; i < 40; i++) Checks.due("6: parcels", x.send(0, 1, 1, 0, 2), i);
        Checks.due("6: too many", x.send(0, 1, 1, 0, 2), -4);
        Checks.due("6: value before", x.send(0, 1, 0, 0, 2), -2);
        x.ticks(1);
        Checks.due("6: all that were ever sent", x.send(0, 1, 1, 0, 2), -4);
        x.undo();
        x.undo();
        Checks.due("6: one undone", x.send(0, 1, 2, 0, 2), 39);
        Checks.due("6: the new one", x.ofParcel(39, 2), 2);
        StubbornBridges y = new StubbornBridges();
        y.send(0, 1, 1, 0, 2);
        for (int i = 2; i <= 300; i++) Checks.due("7: often", y.resend(0), i);
        Checks.due("6: 300 under way", y.send(0, 1, 1, 0, 2), -4);
        Checks.due("7: 300 under way", y.resend(0), -4);
        Checks.due("8: 300 under way", y.forge(0, 0, 1, 0, 0), -4);
        Checks.due("8: value before", y.forge(0, 0, 0, 0, 0), -2);
        Checks.due("7: parcel before", y.resend(1), -1);
        y.ticks(1);
        Checks.due("6: again", y.send(0, 1, 1, 0, 2), 1);
    }

    private static void resendAnswers() {
        StubbornBridges x = pair(100, 1, 1000);
        x.send(0, 1, 10, 5, 41);
        Checks.due("7: twice", x.resend(0), 2);
        Checks.due("7: told", x.ofParcel(0, 6), 2);
        Checks.due("7: the same parcel", x.count(2), 1);
        Checks.due("7: two under way", x.ofParcel(0, 7), 2);
        x.ticks(2);
        Checks.due("7: whole", x.ofParcel(0, 5), 1);
        Checks.due("7: the other is late", x.count(17), 1);
        Checks.due("7: not any more", x.resend(0), -5);
        for (int parcel : new int[] {-1, 1, 40, MIN, MAX}) Checks.due("7: no parcel", x.resend(parcel), -1);
        Checks.due("7: made", x.count(4), 2);
        x.send(0, 1, 10, 5, 2);
        x.ticks(1);
        x.ticks(1);
        Checks.due("7: one hop is enough for one bridge", x.ofParcel(1, 5), 1);
        x.forge(1, 0, 1, 0, 0);
        for (int i = 0; i < 299; i++) x.forge(1, 0, 1, 0, 0);
        Checks.due("7: too many before not possible", x.resend(1), -4);
        resendGoesAsFarAsSend();
    }

    private static void resendGoesAsFarAsSend() {
        StubbornBridges x = pair(100, 1, 1000);
        x.bridge(1, 0, 100, 1, 1000);
        x.route(0, 2, 0);
        x.route(1, 2, 1);
        x.send(0, 2, 10, 0, 6);
        x.ticks(1);
        Checks.due("6: first bridge", x.ofBridge(0, 6), 1);
        x.ticks(20);
        Checks.due("6: three hops", x.ofBridge(0, 6) + x.ofBridge(1, 6), 3);
        x.resend(0);
        x.ticks(20);
        Checks.due("7: three hops more", x.ofBridge(0, 6) + x.ofBridge(1, 6), 6);
        Checks.due("7: dropped for no hops", x.count(11), 2);
    }

    private static void forgeAnswers() {
        StubbornBridges x = new StubbornBridges();
        x.send(0, 1, 10, 0, 41);
        Checks.due("8: under way", x.forge(0, 0, 1, 0, 0), 2);
        Checks.due("8: most", x.forge(0, 3999, 1500, 1, 255), 3);
        Checks.due("8: made", x.count(4), 3);
        Checks.due("8: of the parcel", x.ofParcel(0, 7), 3);
        for (int parcel : new int[] {-1, 1, MIN, MAX}) Checks.due("8: no parcel", x.forge(parcel, -1, 0, 2, -1), -1);
        for (int offset : new int[] {-1, 4000, MIN, MAX}) Checks.due("8: offset", x.forge(0, offset, 1, 0, 0), -2);
        for (int length : new int[] {0, 1501, MIN, MAX}) Checks.due("8: length", x.forge(0, 0, length, 0, 0), -2);
        for (int last : new int[] {-1, 2, MIN, MAX}) Checks.due("8: last", x.forge(0, 0, 1, last, 0), -2);
        for (int seed : new int[] {-1, 256, MIN, MAX}) Checks.due("8: seed", x.forge(0, 0, 1, 0, seed), -2);
        Checks.due("8: errors make nothing", x.count(4), 3);
        x.ticks(1);
        Checks.due("8: one put", x.count(6), 1);
        Checks.due("8: one beyond 4000", x.count(16), 1);
        Checks.due("8: the byte", x.byteAt(0, 0), 0);
        x.forge(0, 300, 2, 0, 200);
        x.ticks(1);
        // 200 * 31 + 301 * 7 + 1 = 8308 = 32 * 256 + 116
        Checks.due("8: a byte behind 256", x.byteAt(0, 301), 116);
        x.forge(0, 3500, 500, 0, 1);
        x.ticks(1);
        Checks.due("8: the end is 4000", x.ofParcel(0, 8), 503);
        x.forge(0, 3501, 500, 0, 1);
        x.ticks(1);
        Checks.due("8: the end is 4001", x.count(16), 2);
        Checks.due("8: forged for what is done", forgeForDone(), 1);
    }

    private static int forgeForDone() {
        StubbornBridges x = pair(100, 1, 1000);
        x.send(0, 1, 10, 0, 41);
        x.ticks(2);
        x.forge(0, 0, 1, 0, 0);
        x.ticks(1);
        return x.count(17);
    }

    private static void ticksAnswers() {
        StubbornBridges x = new StubbornBridges();
        Checks.due("9: one", x.ticks(1), 1);
        Checks.due("9: most", x.ticks(500), 501);
        for (int ticks : new int[] {0, -1, 501, MIN, MAX}) Checks.due("9: bad", x.ticks(ticks), -2);
        Checks.due("9: errors let nothing pass", x.count(0), 501);
        Checks.due("9: changes", x.count(8), 2);
        StubbornBridges a = pair(60, 3, 7), b = pair(60, 3, 7);
        a.send(0, 1, 500, 9, 41);
        b.send(0, 1, 500, 9, 41);
        a.ticks(300);
        for (int i = 0; i < 300; i++) b.ticks(1);
        for (int what = 0; what <= 25; what++) {
            if (what != 8) Checks.due("9: at once or one by one, count " + what, a.count(what), b.count(what));
        }
        for (int what = 0; what <= 13; what++) Checks.due("9: of parcel", a.ofParcel(0, what), b.ofParcel(0, what));
    }

    private static void dropsOnTheWay() {
        StubbornBridges x = pair(50, 1, 1000);
        x.route(0, 2, 0);
        x.send(0, 2, 30, 0, 2);
        x.ticks(2);
        Checks.due("tick 2: no hops before no route", x.count(11), 1);
        x.send(0, 2, 30, 0, 4);
        x.ticks(2);
        Checks.due("tick 2: no route", x.count(12), 1);
        x.send(0, 1, 42, 0, 40);
        x.send(0, 1, 43, 0, 40);
        x.ticks(1);
        Checks.due("tick 3: may not be cut", x.count(13), 1);
        Checks.due("tick 3: which", x.ofParcel(3, 13), 1);
        Checks.due("tick 3: the bridge does not count it", x.ofBridge(0, 6), 3);
        x.route(0, 1, -6);
        x.send(0, 1, 43, 0, 40);
        x.ticks(1);
        Checks.due("tick 2: no route before the room", x.count(12), 2);
        Checks.due("accounts", x.count(4), x.count(3) + x.count(5) + x.count(6) + x.count(11) + x.count(12) + x.count(13));
    }

    private static void cutting() {
        StubbornBridges x = pair(39, 1, 1000);
        x.send(0, 1, 31, 3, 41);
        x.ticks(1);
        Checks.due("cut: fits", x.count(5), 0);
        x.send(0, 1, 32, 3, 41);
        x.ticks(1);
        Checks.due("cut: in steps of 8", x.count(3), 2);
        Checks.due("cut: 24 and 8, with 16 more", x.ofBridge(0, 8), 39 + 48);
        Checks.due("cut: one was cut", x.count(5), 1);
        Checks.due("cut: made", x.count(4), 4);
        x.send(0, 1, 49, 3, 41);
        x.ticks(1);
        Checks.due("cut: 24, 24 and 1", x.ofBridge(0, 8), 39 + 48 + 49 + 24);
        x.ticks(2);
        Checks.due("cut: all whole", x.count(21), 3);
        Checks.due("cut: nothing dropped", x.ofParcel(2, 13), 0);
        lastPieceIsMarked();
    }

    private static void lastPieceIsMarked() {
        StubbornBridges x = pair(16, 1, 1000);
        x.mend(0, 16, 3);
        x.send(0, 1, 20, 3, 41);
        x.ticks(2);
        Checks.due("cut: the last one is lost", x.ofParcel(0, 9), -6);
        Checks.due("cut: two are there", x.ofParcel(0, 8), 16);
        x.mend(0, 16, 2);
        x.resend(0);
        x.ticks(2);
        Checks.due("cut: the last one is there", x.ofParcel(0, 5), 1);
    }

    private static void fullOfSlices() {
        StubbornBridges x = pair(16, 50, 1000);
        x.send(0, 1, 4000, 0, 41);
        x.send(0, 1, 8, 0, 41);
        x.ticks(1);
        Checks.due("full: under way", x.count(3), 300);
        // The first one is cut into 500, of which 299 go on beside the second one.
        Checks.due("full: dropped", x.count(15), 201);
        Checks.due("full: of the first", x.ofParcel(0, 13), 201);
        Checks.due("full: made", x.count(4), 502);
        Checks.due("full: the bridge counts those that go on", x.ofBridge(0, 6), 300);
        Checks.due("full: carried", x.ofBridge(0, 8), 300 * 16);
        Checks.due("full: send", x.send(0, 1, 1, 0, 41), -4);
        x.ticks(50);
        Checks.due("full: under way then", x.count(3), 0);
        Checks.due("full: put", x.count(6), 300);
        Checks.due("full: there", x.ofParcel(0, 8), 299 * 8);
        Checks.due("full: whole", x.ofParcel(1, 5), 1);
        lostOnesLeaveRoom();
        manyTimesFull();
    }

    private static void lostOnesLeaveRoom() {
        StubbornBridges x = pair(16, 50, 1000);
        x.mend(0, 16, 2);
        x.send(0, 1, 4000, 0, 41);
        x.ticks(1);
        Checks.due("full: half are lost", x.count(14), 250);
        Checks.due("full: none for want of room", x.count(15), 0);
        Checks.due("full: half go on", x.count(3), 250);
        x.send(0, 1, 4000, 0, 41);
        x.ticks(1);
        // 50 more go on, and after the 99th every one finds 300 under way.
        Checks.due("full: now", x.count(3), 300);
        Checks.due("full: lost until then", x.count(14), 250 + 49);
        Checks.due("full: the others", x.count(15), 500 - 99);
        Checks.due("full: not counted", x.ofBridge(0, 6), 599);
    }

    private static void manyTimesFull() {
        StubbornBridges x = pair(1500, 1, 1000);
        x.bridge(1, 2, 16, 1, 1000);
        x.route(0, 2, 0);
        x.route(1, 2, 1);
        x.send(0, 2, 1400, 0, 41);
        for (int i = 0; i < 299; i++) x.resend(0);
        x.ticks(3);
        // The first one finds 299 others: one of its 175 goes on; each later one finds one place, too.
        Checks.due("full: again and again", x.count(3), 300);
        Checks.due("full: cut", x.count(5), 300);
        Checks.due("full: made", x.count(4), 300 + 300 * 175);
        Checks.due("full: dropped", x.count(15), 300 * 174);
        x.ticks(1);
        Checks.due("full: put", x.count(6), 300);
        Checks.due("full: the first eight bytes", x.ofParcel(0, 8), 8);
    }

    private static void turns() {
        StubbornBridges x = pair(100, 1, 1000);
        x.mend(0, 100, 4);
        for (int i = 0; i < 9; i++) x.send(0, 1, 10, i, 41);
        x.ticks(1);
        Checks.due("turns: two of nine", x.count(14), 2);
        Checks.due("turns: the fourth", x.ofParcel(3, 13), 1);
        Checks.due("turns: the eighth", x.ofParcel(7, 13), 1);
        Checks.due("turns: carried", x.ofBridge(0, 8), 7 * 18);
        Checks.due("turns: count", x.ofBridge(0, 6), 9);
    }

    private static void overtaking() {
        StubbornBridges x = pair(1500, 1, 10);
        x.send(0, 1, 92, 0, 41);
        x.ticks(1);
        x.send(0, 1, 2, 0, 41);
        x.ticks(1);
        Checks.due("overtaking: the next arrives", x.count(9), 3);
        x.ticks(2);
        Checks.due("overtaking: the second is whole", x.ofParcel(1, 11), 3);
        Checks.due("overtaking: the first is not", x.ofParcel(0, 5), 0);
        x.ticks(8);
        Checks.due("overtaking: the first is whole", x.ofParcel(0, 11), 11);
    }

    private static void orderWithinATick() {
        StubbornBridges x = pair(100, 1, 1000);
        x.send(0, 1, 10, 0, 41);
        x.ticks(1);
        x.forge(0, 0, 10, 0, 9);
        x.ticks(1);
        Checks.due("order: the sent one was made first", x.ofParcel(0, 5), 1);
        Checks.due("order: the forged one is late", x.count(17), 1);
        // A slice that goes on keeps its place before one that was made after it.
        StubbornBridges y = pair(100, 2, 1000);
        y.bridge(1, 2, 100, 1, 1000);
        y.route(0, 2, 0);
        y.route(1, 2, 1);
        y.send(0, 2, 8, 0, 41);
        y.ticks(3);
        y.forge(0, 0, 8, 1, 77);
        y.ticks(1);
        Checks.due("order: it keeps its number", y.ofParcel(0, 5), 1);
        // Pieces are made when they are cut: after a slice that was sent before that.
        StubbornBridges z = pair(24, 2, 1000);
        z.node(1, 0, 60, 64);
        z.send(0, 1, 16, 0, 41);
        z.send(0, 1, 17, 0, 41);
        z.send(0, 1, 16, 0, 41);
        z.ticks(1);
        z.mend(0, 24, 0);
        z.ticks(2);
        Checks.due("order: all whole", z.count(21), 3);
        piecesComeAfterWhatWasMadeBefore();
    }

    private static void piecesComeAfterWhatWasMadeBefore() {
        StubbornBridges x = pair(24, 1, 1000);
        x.bridge(2, 1, 24, 1, 1000);
        x.route(2, 1, 1);
        x.node(1, 0, 60, 64);
        x.send(0, 1, 100, 0, 41);
        x.send(2, 1, 16, 0, 41);
        x.ticks(2);
        // First the second parcel (made before the pieces) is put, then the pieces fill the space.
        Checks.due("order: the second is whole", x.ofParcel(1, 5), 1);
        Checks.due("order: the first is too big", x.ofParcel(0, 5), 4);
    }

    private static void pacesAndDelays() {
        StubbornBridges x = pair(1500, 50, 1);
        x.send(0, 1, 1, 0, 41);
        x.ticks(1);
        Checks.due("pace: 50 + 9", x.count(9), 59);
        StubbornBridges y = pair(1500, 1, 9);
        y.send(0, 1, 9, 0, 41);
        y.send(0, 1, 10, 0, 41);
        y.ticks(1);
        Checks.due("pace: rounded down", y.count(9), 2);
        y.ticks(2);
        Checks.due("pace: only the shorter one is there", y.count(21), 1);
        y.ticks(1);
        Checks.due("pace: the other one is there", y.count(21), 2);
    }

    private static void wholesAndEnds() {
        StubbornBridges x = new StubbornBridges();
        x.send(0, 1, 100, 0, 41);
        x.forge(0, 10, 10, 1, 0);
        x.ticks(1);
        Checks.due("whole: known", x.ofParcel(0, 9), 20);
        x.forge(0, 5, 10, 1, 0);
        x.forge(0, 11, 10, 0, 0);
        x.forge(0, 11, 10, 1, 0);
        x.ticks(1);
        Checks.due("whole: another end, beyond it", x.count(16), 3);
        x.forge(0, 12, 8, 1, 0);
        x.forge(0, 12, 8, 0, 0);
        x.forge(0, 0, 9, 0, 0);
        x.ticks(1);
        Checks.due("whole: these fit", x.count(16), 3);
        Checks.due("whole: there", x.ofParcel(0, 8), 19);
        Checks.due("whole: first missing", x.ofParcel(0, 10), 9);
        x.send(0, 2, 100, 0, 41);
        x.forge(1, 50, 10, 0, 0);
        x.forge(1, 0, 59, 1, 0);
        x.ticks(1);
        Checks.due("whole: a byte at its end is there", x.count(16), 4);
        Checks.due("whole: not known by what was dropped", x.ofParcel(1, 9), -6);
        x.forge(1, 0, 50, 1, 0);
        x.ticks(1);
        Checks.due("whole: bytes behind its end are there", x.count(16), 5);
        x.forge(1, 55, 5, 1, 0);
        x.ticks(1);
        Checks.due("whole: known by bytes that were there", x.ofParcel(1, 9), 60);
        Checks.due("whole: dropped of the parcels", x.ofParcel(0, 13) + x.ofParcel(1, 13), 5 + 2);
    }

    private static void ways() {
        int[] wantByte = {140, 233, -6}, wantThere = {12, 12, 0}, wantState = {0, 0, 5};
        for (int way = 0; way <= 2; way++) {
            StubbornBridges x = new StubbornBridges();
            x.node(1, way, 60, 8000);
            x.send(0, 1, 100, 0, 41);
            x.forge(0, 20, 8, 0, 0);
            x.forge(0, 16, 4, 0, 0);
            x.ticks(1);
            Checks.due("way: not overlapping", x.ofParcel(0, 8), 12);
            x.forge(0, 18, 4, 0, 3);
            x.ticks(1);
            // 20 * 7 = 140, and with the seed 3: 93 + 140 = 233
            Checks.due("way " + way + ": byte", x.byteAt(0, 20), wantByte[way]);
            Checks.due("way " + way + ": there", x.ofParcel(0, 8), wantThere[way]);
            Checks.due("way " + way + ": state", x.ofParcel(0, 5), wantState[way]);
            Checks.due("way " + way + ": put", x.count(6), 3);
            Checks.due("way " + way + ": since", x.ofParcel(0, 11), way == 2 ? 1 : -6);
            Checks.due("way " + way + ": at the node", x.ofNode(1, 4), way == 2 ? 0 : 1);
        }
        waysFillGaps();
    }

    private static void waysFillGaps() {
        for (int way = 0; way <= 1; way++) {
            StubbornBridges x = new StubbornBridges();
            x.node(1, way, 60, 8000);
            x.send(0, 1, 100, 0, 41);
            x.forge(0, 20, 2, 0, 0);
            x.forge(0, 19, 4, 0, 1);
            x.ticks(1);
            Checks.due("way: before", x.byteAt(0, 19), 31 + 133);
            Checks.due("way: behind", x.byteAt(0, 22), 31 + 154);
            Checks.due("way: in it", x.byteAt(0, 21), way == 0 ? 147 : 178);
            Checks.due("way: there", x.ofParcel(0, 8), 4);
        }
    }

    private static void spaces() {
        StubbornBridges x = new StubbornBridges();
        x.node(1, 0, 60, 100);
        for (int i = 0; i < 4; i++) x.send(0, 1, 100, 0, 41);
        x.forge(2, 0, 30, 0, 0);
        x.forge(1, 0, 30, 0, 0);
        x.ticks(1);
        x.forge(0, 0, 40, 0, 0);
        x.ticks(1);
        Checks.due("space: just as much", x.ofNode(1, 3), 100);
        Checks.due("space: three", x.ofNode(1, 4), 3);
        x.forge(3, 0, 1, 0, 0);
        x.ticks(1);
        Checks.due("space: the lowest number of the earliest", x.ofParcel(1, 5), 4);
        Checks.due("space: not the other one", x.ofParcel(2, 5), 0);
        Checks.due("space: when", x.ofParcel(1, 11), 2);
        x.forge(3, 0, 91, 0, 0);
        x.ticks(1);
        Checks.due("space: the next one", x.ofParcel(2, 5), 4);
        Checks.due("space: and the next one", x.ofParcel(0, 5), 4);
        Checks.due("space: what is left", x.ofNode(1, 3), 91);
        Checks.due("space: evicted", x.count(24), 3);
        x.forge(3, 91, 10, 1, 0);
        x.ticks(1);
        Checks.due("space: also itself", x.ofParcel(3, 5), 4);
        Checks.due("space: nothing is left", x.ofNode(1, 3), 0);
        spaceBeforeWhole();
    }

    private static void spaceBeforeWhole() {
        StubbornBridges x = pair(1500, 1, 1000);
        x.node(1, 0, 60, 64);
        x.send(0, 1, 64, 0, 41);
        x.send(0, 1, 65, 0, 41);
        x.ticks(2);
        Checks.due("space: 64 are not more", x.ofParcel(0, 5), 1);
        Checks.due("space: it would be complete", x.ofParcel(1, 5), 4);
        x.send(2, 1, 10, 0, 41);
        x.send(2, 1, 10, 0, 41);
        x.forge(2, 0, 60, 0, 0);
        x.ticks(1);
        x.forge(3, 0, 10, 1, 0);
        x.ticks(1);
        Checks.due("space: the earlier one makes room", x.ofParcel(2, 5), 4);
        Checks.due("space: for one that is whole then", x.ofParcel(3, 5), 1);
        x.send(2, 3, 10, 0, 41);
        x.forge(4, 0, 100, 0, 0);
        x.ticks(1);
        Checks.due("space: of another node", x.ofParcel(4, 5), 0);
        x.send(2, 1, 10, 0, 41);
        x.send(2, 1, 100, 0, 41);
        x.forge(5, 0, 1, 0, 0);
        x.ticks(1);
        x.forge(6, 0, 64, 0, 0);
        x.ticks(1);
        Checks.due("space: one of a single byte", x.ofParcel(5, 5), 4);
        Checks.due("space: is enough", x.ofParcel(6, 5), 0);
    }

    /** Step 4 of putting together is said of every slice that is put, also of one that is refused. */
    private static void refusedThenSpace() {
        StubbornBridges x = new StubbornBridges();
        x.node(1, 2, 60, 8000);
        x.send(0, 1, 100, 0, 41);
        x.send(0, 1, 100, 0, 41);
        x.forge(0, 0, 100, 0, 0);
        x.forge(1, 0, 50, 0, 0);
        x.ticks(1);
        x.node(1, 2, 60, 64);
        x.forge(1, 0, 1, 0, 0);
        x.ticks(1);
        Checks.due("refused: one", x.ofParcel(1, 5), 5);
        Checks.due("refused: the others are more than the space", x.ofParcel(0, 5), 4);
    }

    private static void timeOuts() {
        StubbornBridges x = new StubbornBridges();
        x.node(1, 0, 5, 8000);
        x.send(0, 1, 100, 0, 41);
        x.ticks(10);
        Checks.due("time-out: nothing was put", x.ofParcel(0, 5), 0);
        x.forge(0, 0, 10, 0, 0);
        x.ticks(3);
        x.forge(0, 10, 10, 0, 0);
        x.ticks(2);
        Checks.due("time-out: not yet", x.ofParcel(0, 5), 0);
        x.ticks(1);
        Checks.due("time-out: since the first slice", x.ofParcel(0, 5), 3);
        Checks.due("time-out: when", x.ofParcel(0, 11), 15);
        Checks.due("time-out: nothing is there", x.ofParcel(0, 8), 0);
        x.forge(0, 0, 10, 0, 0);
        x.ticks(1);
        Checks.due("time-out: later slices are dropped", x.count(17), 1);
        StubbornBridges y = new StubbornBridges();
        y.node(1, 0, 5, 8000);
        y.send(0, 1, 20, 0, 41);
        y.forge(0, 0, 10, 0, 0);
        y.ticks(5);
        y.forge(0, 10, 10, 1, 0);
        y.ticks(1);
        Checks.due("time-out: slices of the tick come first", y.ofParcel(0, 5), 1);
    }

    private static void wholeAndBroken() {
        StubbornBridges x = new StubbornBridges();
        for (int i = 0; i < 4; i++) x.send(0, 1, 20, 7, 41);
        x.forge(0, 0, 20, 1, 7);
        x.forge(1, 0, 20, 1, 8);
        x.forge(2, 0, 19, 1, 7);
        x.forge(3, 5, 15, 1, 7);
        x.forge(3, 0, 5, 0, 7);
        x.ticks(1);
        Checks.due("whole: as sent", x.ofParcel(0, 5), 1);
        Checks.due("broken: other bytes", x.ofParcel(1, 5), 2);
        Checks.due("broken: another length", x.ofParcel(2, 5), 2);
        Checks.due("whole: in any order", x.ofParcel(3, 5), 1);
        Checks.due("whole: there", x.ofNode(1, 3), 0);
        // The sums are compared, not the bytes.
        x.send(0, 1, 512, 0, 41);
        x.forge(4, 0, 512, 1, 64);
        x.ticks(1);
        int sum = 0, forged = 0;
        for (int i = 0; i < 512; i++) sum += (i * 7 + i / 256) % 256;
        for (int i = 0; i < 512; i++) forged += (64 * 31 + i * 7 + i / 256) % 256;
        Checks.due("whole: the sums are the same", sum, forged);
        Checks.due("whole: by its sum", x.ofParcel(4, 5), 1);
        x.send(0, 1, 2, 0, 41);
        x.forge(5, 0, 1, 1, 0);
        x.ticks(1);
        Checks.due("broken: sum 0, not 7", x.ofParcel(5, 5), 2);
        x.send(0, 1, 1, 0, 41);
        x.forge(6, 0, 1, 0, 0);
        x.forge(6, 1, 1, 1, 33);
        x.ticks(1);
        // 33 * 31 + 7 = 1030 = 4 * 256 + 6
        Checks.due("broken: longer", x.ofParcel(6, 5), 2);
        brokenByItsLengthAlone();
    }

    private static void brokenByItsLengthAlone() {
        StubbornBridges x = new StubbornBridges();
        x.send(0, 1, 2, 182, 41);
        // 182 * 31 = 5642 = 22 * 256 + 10, so the bytes are 10 and 17. Three bytes from 2 on, 2, 9 and 16, have that sum.
        int seed = 0;
        for (int k = 0; k < 256 && seed * 31 % 256 != 2; k++) seed++;
        x.forge(0, 0, 3, 1, seed);
        x.ticks(1);
        Checks.due("broken: sum", x.ofParcel(0, 12), 27);
        Checks.due("broken: by its length alone", x.ofParcel(0, 5), 2);
        // A sum above 65521 is left over by it.
        x.send(0, 1, 4000, 9, 41);
        int sum = 0;
        for (int i = 0; i < 4000; i++) sum += (9 * 31 + i * 7 + i / 256) % 256;
        Checks.due("whole: the sum is left over", x.ofParcel(1, 12), sum % 65521);
        x.forge(1, 0, 1500, 0, 9);
        x.forge(1, 1500, 1500, 0, 9);
        x.forge(1, 3000, 1000, 1, 9);
        x.ticks(1);
        Checks.due("whole: as big as can be", x.ofParcel(1, 5), 1);
    }
}

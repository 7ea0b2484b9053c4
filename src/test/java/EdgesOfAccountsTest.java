/** The edges of promises 10 to 14; above each test stands its sentence. */
public final class EdgesOfAccountsTest {
    private static final int MIN = Integer.MIN_VALUE, MAX = Integer.MAX_VALUE;

    public static void main(String[] args) {
        everyWhatOfNode();
        everyWhatOfBridge();
        everyWhatOfParcel();
        everyWhatOfCount();
        orderOfErrors();
        bytesAndParcelsAtANode();
        droppedSinceItWasMade();
        bytesThatWentOver();
        slicesUnderWayOfAParcel();
        lengthOfTheWhole();
        firstByteThatIsNotThere();
        tickOfAnotherState();
        droppedOfAParcel();
        byteAtTheEdges();
        nextSlice();
        madeCutAndPut();
        historyAndPad();
        accountsAddUp();
        Checks.finish();
    }

    /** "what: 0 .. 4, 10 to 17"; "BAD_VALUE if what is out of range" */
    private static void everyWhatOfNode() {
        StubbornBridges x = new StubbornBridges();
        int[] atFirst = {0, 60, 8000, 0, 0};
        for (int node = 0; node < 8; node++) {
            for (int what = -10; what <= 30; what++) {
                int want = what >= 0 && what <= 4 ? atFirst[Math.max(0, Math.min(4, what))] : what >= 10 && what <= 17 ? -6 : -2;
                Checks.due("10: node " + node + ", what " + what, x.ofNode(node, what), want);
            }
            for (int what : new int[] {MIN, MAX, MIN + 10, MAX - 10}) Checks.due("10: what " + what, x.ofNode(node, what), -2);
        }
    }

    /** "what: 0 .. 8" */
    private static void everyWhatOfBridge() {
        StubbornBridges x = new StubbornBridges();
        x.bridge(2, 5, 77, 6, 55);
        int[] want = {2, 5, 77, 6, 55, 0, 0, 0, 0};
        for (int what = -10; what <= 30; what++) {
            boolean good = what >= 0 && what <= 8;
            Checks.due("11: what " + what, x.ofBridge(0, what), good ? want[what] : -2);
        }
        for (int what : new int[] {MIN, MAX}) Checks.due("11: what " + what, x.ofBridge(0, what), -2);
    }

    /** "what: 0 .. 13" */
    private static void everyWhatOfParcel() {
        StubbornBridges x = new StubbornBridges();
        x.send(6, 7, 3, 1, 3);
        // 31 + 38 + 45
        int[] want = {6, 7, 3, 1, 1, 0, 1, 1, 0, -6, 0, -6, 114, 0};
        for (int what = -10; what <= 30; what++) {
            boolean good = what >= 0 && what <= 13;
            Checks.due("12: what " + what, x.ofParcel(0, what), good ? want[what] : -2);
        }
        for (int what : new int[] {MIN, MAX}) Checks.due("12: what " + what, x.ofParcel(0, what), -2);
    }

    /** "what: 0 .. 9, 11 to 17, 20 to 25"; what else is asked is not said, and answered as elsewhere. */
    private static void everyWhatOfCount() {
        StubbornBridges x = new StubbornBridges();
        for (int what = -10; what <= 40; what++) {
            boolean good = what >= 0 && what <= 9 || what >= 11 && what <= 17 || what >= 20 && what <= 25;
            Checks.due("14: what " + what, x.count(what), what == 9 ? -6 : good ? 0 : -2);
        }
        for (int what : new int[] {MIN, MAX}) Checks.due("14: what " + what, x.count(what), -2);
    }

    /** "NO_SUCH if there is no such ..; BAD_VALUE .." */
    private static void orderOfErrors() {
        StubbornBridges x = new StubbornBridges();
        for (int i = 0; i < 2; i++) {
            for (int number : new int[] {MIN, -6, -1, i, 16, 40, MAX}) {
                for (int what = -1; what <= 18; what++) {
                    Checks.due("11: no bridge " + number + ", what " + what, x.ofBridge(number, what), -1);
                    Checks.due("12: no parcel " + number + ", what " + what, x.ofParcel(number, what), -1);
                }
                for (int at : new int[] {-1, 0, 3999, 4000}) Checks.due("13: no parcel " + number, x.byteAt(number, at), -1);
            }
            for (int node : new int[] {MIN, -6, -1, 8, 9, MAX}) {
                for (int what = -1; what <= 18; what++) Checks.due("10: no node " + node + ", what " + what, x.ofNode(node, what), -1);
            }
            x.bridge(0, 1, 16, 1, 1);
            x.send(0, 1, 1, 0, 41);
        }
        Checks.due("13: the place, before NONE", x.byteAt(0, 4000), -2);
        Checks.due("13: the place, before NONE", x.byteAt(0, -1), -2);
    }

    /** "3 the bytes that are there of parcels that are not whole, 4 how many such parcels" */
    private static void bytesAndParcelsAtANode() {
        StubbornBridges x = new StubbornBridges();
        for (int i = 0; i < 4; i++) x.send(0, 1, 20, 0, 41);
        x.ticks(1);
        node(x, 0, 0);
        x.forge(0, 0, 10, 0, 0);
        x.forge(0, 5, 10, 0, 0);
        x.forge(1, 19, 1, 1, 0);
        x.ticks(1);
        node(x, 16, 2);
        x.forge(2, 0, 20, 1, 0);
        x.ticks(1);
        node(x, 16, 2);
        x.forge(0, 15, 5, 1, 0);
        x.ticks(1);
        node(x, 1, 1);
        x.ticks(60);
        node(x, 0, 0);
    }

    private static void node(StubbornBridges x, int bytes, int parcels) {
        Checks.due("10: bytes in the tick " + x.count(0), x.ofNode(1, 3), bytes);
        Checks.due("10: parcels in the tick " + x.count(0), x.ofNode(1, 4), parcels);
    }

    /** "7 the slices that it dropped for the reason 4 (since it was made)" */
    private static void droppedSinceItWasMade() {
        StubbornBridges x = Checks.pair(16, 1, 1000);
        for (int i = 1; i <= 5; i++) {
            x.mend(0, 16, 1);
            x.send(0, 1, 8, 0, 41);
            x.ticks(1);
            Checks.due("11: lost since it was made", x.ofBridge(0, 7), i);
            Checks.due("11: count", x.ofBridge(0, 6), 1);
        }
        x.mend(0, 16, 0);
        x.send(0, 1, 9, 0, 40);
        x.ticks(1);
        Checks.due("11: what is dropped for the reason 3 is not", x.ofBridge(0, 7), 5);
        Checks.due("11: the reason 3", x.count(13), 1);
    }

    /** "8 the bytes (8 more for each slice) that went over it" */
    private static void bytesThatWentOver() {
        StubbornBridges x = Checks.pair(24, 5, 1000);
        x.mend(0, 24, 3);
        x.send(0, 1, 50, 0, 41);
        x.ticks(1);
        // 16, 16, (16 lost), 2
        Checks.due("11: bytes", x.ofBridge(0, 8), 34 + 24);
        x.mend(0, 24, 0);
        Checks.due("11: they stay", x.ofBridge(0, 8), 58);
        x.send(0, 1, 1, 0, 41);
        x.ticks(1);
        Checks.due("11: a byte", x.ofBridge(0, 8), 58 + 9);
    }

    /** "7 its slices that are under way" */
    private static void slicesUnderWayOfAParcel() {
        StubbornBridges x = Checks.pair(16, 3, 1000);
        x.send(0, 1, 24, 0, 41);
        x.send(0, 1, 8, 0, 41);
        x.forge(0, 0, 1, 0, 0);
        Checks.due("12: sent and forged", x.ofParcel(0, 7), 2);
        x.ticks(1);
        Checks.due("12: three pieces", x.ofParcel(0, 7), 3);
        Checks.due("12: of the other one", x.ofParcel(1, 7), 1);
        x.ticks(3);
        Checks.due("12: none", x.ofParcel(0, 7) + x.ofParcel(1, 7), 0);
        x.send(0, 1, 24, 0, 41);
        x.forge(2, 0, 24, 1, 0);
        x.ticks(1);
        Checks.due("12: whole", x.ofParcel(2, 5), 1);
        Checks.due("12: but three are under way", x.ofParcel(2, 7), 3);
        x.ticks(3);
        Checks.due("12: and are dropped", x.ofParcel(2, 13), 3);
    }

    /** "9 the length of the whole (NONE if it is not known, or nothing of it is there)" */
    private static void lengthOfTheWhole() {
        for (int length : new int[] {2, 3, 1500, 3999, 4000}) {
            StubbornBridges x = new StubbornBridges();
            x.send(0, 1, 9, 0, 41);
            Checks.due("12: nothing is there", x.ofParcel(0, 9), -6);
            x.forge(0, 0, 1, 0, 0);
            x.ticks(1);
            Checks.due("12: it is not known", x.ofParcel(0, 9), -6);
            x.forge(0, length - 1, 1, 1, 0);
            x.ticks(1);
            Checks.due("12: length " + length, x.ofParcel(0, 9), length == 2 ? -6 : length);
            x.ticks(60);
            Checks.due("12: nothing is there any more", x.ofParcel(0, 9), -6);
        }
    }

    /** "10 the first byte that is not there (0 if none is)" */
    private static void firstByteThatIsNotThere() {
        StubbornBridges x = new StubbornBridges();
        x.send(0, 1, 100, 0, 41);
        Checks.due("12: nothing is there", x.ofParcel(0, 10), 0);
        int[][] offsetLengthFirst = {{1, 1, 0}, {0, 1, 2}, {2, 1, 3}, {4, 10, 3}, {3, 1, 14}, {50, 50, 14}, {14, 36, 100},
            {100, 1400, 1500}, {1500, 1500, 3000}, {3000, 999, 3999}};
        for (int[] row : offsetLengthFirst) {
            x.forge(0, row[0], row[1], 0, 0);
            x.ticks(1);
            Checks.due("12: behind " + row[0] + "+" + row[1], x.ofParcel(0, 10), row[2]);
            Checks.due("20: the same", x.gap(0, 0), row[2]);
        }
        StubbornBridges y = new StubbornBridges();
        y.send(0, 1, 100, 0, 41);
        y.forge(0, 0, 1, 0, 0);
        y.ticks(1);
        Checks.due("12: one byte is there", y.ofParcel(0, 10), 1);
        y.ticks(60);
        Checks.due("12: gone", y.ofParcel(0, 10), 0);
    }

    /** "11 the tick in which its state became another one (NONE if it is ON_ITS_WAY)" */
    private static void tickOfAnotherState() {
        StubbornBridges x = new StubbornBridges();
        for (int i = 0; i < 4; i++) {
            x.send(0, 1, 10, 0, 41);
            x.forge(i, 0, 10, 1, 0);
            Checks.due("12: on its way", x.ofParcel(i, 11), -6);
            x.ticks(i + 1);
            Checks.due("12: the tick", x.ofParcel(i, 11), i * (i + 1) / 2);
        }
        x.ticks(500);
        Checks.due("12: it stays", x.ofParcel(3, 11), 6);
    }

    /** "13 its slices that were dropped", for each of the seven reasons. */
    private static void droppedOfAParcel() {
        StubbornBridges x = Checks.pair(16, 1, 1000);
        x.bridge(1, 0, 16, 1, 1000);
        x.route(0, 2, 0);
        x.send(0, 2, 8, 0, 2);
        x.send(0, 2, 8, 0, 4);
        x.send(0, 1, 9, 0, 40);
        x.ticks(2);
        x.mend(0, 16, 1);
        x.send(0, 1, 8, 0, 41);
        x.ticks(1);
        x.mend(0, 16, 0);
        x.send(0, 1, 24, 0, 41);
        x.send(2, 3, 1, 0, 2);
        for (int i = 0; i < 298; i++) x.forge(5, 4 + i, 1, 0, 0);
        x.ticks(1);
        x.send(0, 1, 8, 0, 41);
        x.forge(6, 4000 - 1, 2, 0, 0);
        x.send(0, 1, 8, 0, 41);
        x.forge(7, 0, 8, 1, 0);
        x.ticks(1);
        x.forge(7, 0, 8, 1, 0);
        x.ticks(2);
        int[] dropped = {1, 1, 1, 1, 2, 1, 1, 2};
        for (int i = 0; i < 8; i++) Checks.due("12: dropped of " + i, x.ofParcel(i, 13), dropped[i]);
        int[] reasons = {1, 2, 1, 1, 2, 1, 2};
        for (int i = 0; i < 7; i++) Checks.due("14: reason " + (i + 1), x.count(11 + i), reasons[i]);
    }

    /** "BAD_VALUE if at is not 0 to 3999; NONE if this byte is not there" */
    private static void byteAtTheEdges() {
        StubbornBridges x = new StubbornBridges();
        x.send(0, 1, 1, 0, 41);
        for (int at : new int[] {MIN, -6, -1, 4000, 4001, MAX}) Checks.due("13: at " + at, x.byteAt(0, at), -2);
        for (int at : new int[] {0, 1, 3998, 3999}) Checks.due("13: not there, " + at, x.byteAt(0, at), -6);
        x.forge(0, 0, 1, 0, 33);
        x.forge(0, 3999, 1, 0, 0);
        x.ticks(1);
        // 33 * 31 = 1023 = 3 * 256 + 255
        Checks.due("13: the greatest byte", x.byteAt(0, 0), 255);
        Checks.due("13: the last place", x.byteAt(0, 3999), 104);
        for (int at : new int[] {1, 3998}) Checks.due("13: next to it, " + at, x.byteAt(0, at), -6);
        for (int at : new int[] {MIN, -1, 4000, MAX}) Checks.due("13: at " + at, x.byteAt(0, at), -2);
        StubbornBridges y = new StubbornBridges();
        y.send(0, 1, 5, 0, 41);
        y.forge(0, 0, 1, 0, 0);
        y.ticks(1);
        Checks.due("13: a 0 that is there", y.byteAt(0, 0), 0);
    }

    /** "9 the tick in which the next slice arrives (NONE if none is under way)" */
    private static void nextSlice() {
        StubbornBridges x = new StubbornBridges();
        Checks.due("14: none", x.count(9), -6);
        x.bridge(0, 1, 100, 9, 1000);
        x.bridge(2, 3, 100, 4, 1000);
        x.route(0, 1, 0);
        x.route(2, 3, 1);
        x.send(0, 1, 10, 0, 41);
        x.ticks(1);
        Checks.due("14: the first one", x.count(9), 9);
        x.send(2, 3, 10, 0, 41);
        Checks.due("14: the present tick", x.count(9), 1);
        x.ticks(1);
        Checks.due("14: the second one comes before", x.count(9), 5);
        x.ticks(3);
        Checks.due("14: it is the next, now", x.count(9), 5);
        x.ticks(1);
        Checks.due("14: then the first one", x.count(9), 9);
        x.ticks(4);
        Checks.due("14: none is under way", x.count(9), -6);
    }

    /** "4 slices that were made in all (by sending, forging and cutting), 5 slices that were cut, 6 slices that were put" */
    private static void madeCutAndPut() {
        StubbornBridges x = Checks.pair(40, 1, 1000);
        x.bridge(1, 2, 16, 1, 1000);
        x.route(0, 2, 0);
        x.route(1, 2, 1);
        int[] madeCutPut = {1, 0, 0, 3, 1, 0, 11, 3, 0, 11, 3, 8};
        x.send(0, 2, 64 - 7, 0, 41);
        for (int i = 0; i < 4; i++) {
            // 57: 32 and 25; then four of 8, and 8, 8, 8 and 1
            for (int k = 0; k < 3; k++) Checks.due("14: tick " + i + ", " + (4 + k), x.count(4 + k), madeCutPut[3 * i + k]);
            x.ticks(1);
        }
        Checks.due("14: whole", x.ofParcel(0, 5), 1);
        x.forge(0, 0, 1, 0, 0);
        x.send(0, 2, 8, 0, 41);
        x.resend(1);
        Checks.due("14: sent, sent again and forged", x.count(4), 14);
    }

    /** "7 the length of the pad, 8 how many changes can be undone" */
    private static void historyAndPad() {
        StubbornBridges x = new StubbornBridges();
        for (int i = 1; i <= 10; i++) {
            x.put(Checks.number("abcdefgh"));
            Checks.due("14: pad", x.count(7), 8 * i);
            x.ticks(1);
            Checks.due("14: history", x.count(8), Math.min(6, i));
        }
    }

    /** "accounts of slices and bytes that add up": every slice that was made is somewhere, and every byte at its node. */
    private static void accountsAddUp() {
        StubbornBridges x = new StubbornBridges();
        for (int i = 0; i < 5; i++) {
            x.bridge(i, (i + 1) % 5, 200 - 40 * i, 1 + i, 9);
            for (int to = 0; to < 7; to++) x.route(i, to, i);
            x.mend(i, 200 - 40 * i, 5 + i);
            x.node(i, i % 3, 20, 150);
        }
        for (int i = 0; i < 40; i++) {
            x.send(i % 5, i % 5 == i * 3 % 7 ? 7 : i * 3 % 7, 9 * i + 1, i, 2 + i);
            x.forge(i / 2, 10 * i, 12, i % 4 == 0 ? 1 : 0, i);
            x.ticks(2);
            int slices = x.count(3) + x.count(5) + x.count(6), lost = 0, carried = 0, states = 0, parcels = 0;
            for (int what = 11; what <= 17; what++) lost += x.count(what);
            Checks.due("add up: slices", slices + lost, x.count(4));
            for (int p = 0; p < x.count(2); p++) parcels += x.ofParcel(p, 13);
            Checks.due("add up: dropped", parcels, lost);
            for (int bridge = 0; bridge < 5; bridge++) carried += x.ofBridge(bridge, 7);
            Checks.due("add up: reason 4", carried, x.count(14));
            for (int what = 20; what <= 25; what++) states += x.count(what);
            Checks.due("add up: states", states, x.count(2));
            int there = 0, atNodes = 0, underWay = 0;
            for (int p = 0; p < x.count(2); p++) there += x.ofParcel(p, 8);
            for (int p = 0; p < x.count(2); p++) underWay += x.ofParcel(p, 7);
            for (int node = 0; node < 8; node++) atNodes += x.ofNode(node, 3);
            Checks.due("add up: bytes", atNodes, there);
            Checks.due("add up: under way", underWay, x.count(3));
        }
    }
}

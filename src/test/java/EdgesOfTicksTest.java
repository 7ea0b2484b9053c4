/** The edges of the terms "A tick" and "Putting together"; above each test stands its sentence. */
public final class EdgesOfTicksTest {
    public static void main(String[] args) {
        putWithoutHops();
        hopsBeforeRoutes();
        noRouteOnTheWay();
        cutInStepsOfEight();
        whatIsLeftMayBeWhole();
        cutInTheMiddleMarksNothing();
        piecesInTheOrderOfTheirOffsets();
        uncutBeforeTheCount();
        threeHundredAndThisOne();
        threeHundredAndItsPieces();
        droppedForRoomIsNotCounted();
        madeBefore();
        timeOutAfterTheSlices();
        timeOutsOfSeveralNodes();
        timeOutFromTheFirstSliceThatWasPut();
        timeOutNotOfWhatIsDone();
        stateOfTheFirstTick();
        lateInEveryState();
        endsThatDoNotFit();
        endsThatFit();
        beyond4000();
        misfitBeforeRefusal();
        misfitIsNotPut();
        overlapByOneByte();
        nextToEachOtherIsNoOverlap();
        waysOfOtherNodes();
        wayChangedLater();
        refusedIsGone();
        Checks.finish();
    }

    /** Bridges from 0 to 1 to 2 to 3, all alike, with routes to 3. */
    private static StubbornBridges row(int room) {
        StubbornBridges x = new StubbornBridges();
        for (int i = 0; i < 3; i++) {
            x.bridge(i, i + 1, room, 1, 1000);
            for (int to = i + 1; to < 4; to++) x.route(i, to, i);
        }
        return x;
    }

    /** "1. If it is the node to which its parcel goes, the slice is put to the others", also with no hops left. */
    private static void putWithoutHops() {
        StubbornBridges x = row(100);
        x.send(0, 3, 10, 0, 6);
        x.send(0, 3, 10, 0, 4);
        x.send(0, 2, 10, 0, 4);
        x.send(0, 1, 10, 0, 2);
        x.ticks(10);
        int[] states = {1, 0, 1, 1};
        for (int i = 0; i < 4; i++) Checks.due("hops: parcel " + i, x.ofParcel(i, 5), states[i]);
        Checks.due("hops: one dropped", x.count(11), 1);
        Checks.due("hops: of the second one", x.ofParcel(1, 13), 1);
    }

    /** "2. Otherwise, if it has no hops left, it is dropped (reason 1). If the node has no route .. (reason 2)." */
    private static void hopsBeforeRoutes() {
        StubbornBridges x = row(100);
        x.route(1, 3, -6);
        x.send(0, 3, 10, 0, 2);
        x.send(0, 3, 10, 0, 4);
        x.ticks(2);
        Checks.due("2: no hops and no route", x.ofParcel(0, 13) + x.count(11), 2);
        Checks.due("2: hops, but no route", x.ofParcel(1, 13) + x.count(12), 2);
    }

    private static void noRouteOnTheWay() {
        StubbornBridges x = row(100);
        x.send(0, 3, 10, 0, 41);
        x.ticks(2);
        x.route(2, 3, -6);
        x.ticks(1);
        Checks.due("2: the route went away", x.count(12), 1);
        x.send(2, 3, 10, 0, 41);
        x.ticks(1);
        Checks.due("2: at the first node", x.count(12), 2);
        x.send(2, 0, 10, 0, 41);
        x.ticks(1);
        Checks.due("2: a route to another node is none to this one", x.count(12), 3);
    }

    /** "each is (room - 8) / 8 * 8 long, the last one is what is left" */
    private static void cutInStepsOfEight() {
        for (int room = 16; room <= 40; room++) {
            StubbornBridges x = Checks.pair(room, 1, 1000);
            int step = room < 24 ? 8 : room < 32 ? 16 : room < 40 ? 24 : 32;
            x.mend(0, room, 2);
            x.send(0, 1, 100, 0, 41);
            x.ticks(2);
            // Every second piece is lost.
            int at = 0;
            for (int piece = 1; at < 100; piece++) {
                int end = Math.min(100, at + step);
                for (; at < end; at++) {
                    Checks.due("room " + room + ": byte " + at, x.byteAt(0, at), piece % 2 == 0 ? -6 : Checks.byteOf(0, at));
                }
            }
        }
    }

    /** What is left has at least one byte, and at most as many as the others. */
    private static void whatIsLeftMayBeWhole() {
        int[][] sizePieces = {{17, 2}, {31, 2}, {32, 2}, {33, 3}, {48, 3}, {49, 4}};
        for (int[] row : sizePieces) {
            StubbornBridges x = Checks.pair(24, 1, 1000);
            x.send(0, 1, row[0], 0, 41);
            x.ticks(1);
            Checks.due("left of " + row[0] + ": pieces", x.count(3), row[1]);
            Checks.due("left of " + row[0] + ": made", x.count(4), row[1] + 1);
            x.ticks(1);
            Checks.due("left of " + row[0] + ": put", x.count(6), row[1]);
            Checks.due("left of " + row[0] + ": whole", x.ofParcel(0, 5), 1);
        }
    }

    /** "the last of them is marked as the last one if the slice was" */
    private static void cutInTheMiddleMarksNothing() {
        StubbornBridges x = new StubbornBridges();
        x.bridge(0, 1, 40, 1, 1000);
        x.bridge(1, 2, 24, 1, 1000);
        x.route(0, 2, 0);
        x.route(1, 2, 1);
        x.mend(1, 24, 4);
        x.send(0, 2, 64, 0, 41);
        x.ticks(3);
        Checks.due("marks: 32 and 32, then four of 16", x.ofBridge(1, 6), 4);
        Checks.due("marks: the last one is lost, so nothing is known", x.ofParcel(0, 9), -6);
        Checks.due("marks: three are there", x.ofParcel(0, 8), 48);
        Checks.due("marks: nothing misfits", x.count(16), 0);
        x.mend(1, 24, 3);
        x.resend(0);
        x.ticks(3);
        Checks.due("marks: now it is there", x.ofParcel(0, 5), 1);
    }

    /** "they go on in its place, in the order of their offsets, made in this order" */
    private static void piecesInTheOrderOfTheirOffsets() {
        StubbornBridges x = Checks.pair(16, 1, 1000);
        x.mend(0, 16, 3);
        x.send(0, 1, 40, 0, 41);
        x.ticks(2);
        Checks.due("order: the third piece is lost", x.gap(0, 0), 16);
        Checks.due("order: it alone", x.gap(0, 1), 8);
        // They are put in that order, too: the first two fill the space, the third one is too much.
        StubbornBridges y = Checks.pair(40, 1, 1000);
        y.node(1, 0, 60, 64);
        y.send(0, 1, 100, 0, 41);
        y.ticks(2);
        Checks.due("order: evicted", y.ofParcel(0, 5), 4);
        Checks.due("order: by the third piece", y.count(6), 3);
        Checks.due("order: the fourth one is late", y.count(17), 1);
    }

    /** "if the parcel may not be cut, it is dropped (reason 3)", before the bridge counts it. */
    private static void uncutBeforeTheCount() {
        StubbornBridges x = Checks.pair(16, 1, 1000);
        x.mend(0, 16, 1);
        x.send(0, 1, 9, 0, 40);
        x.send(0, 1, 8, 0, 40);
        x.ticks(1);
        Checks.due("3: not to be cut", x.ofParcel(0, 13) + x.count(13), 2);
        Checks.due("3: fits, but is lost", x.ofParcel(1, 13) + x.count(14), 2);
        Checks.due("3: only one came to the bridge", x.ofBridge(0, 6), 1);
        Checks.due("3: none was cut", x.count(5), 0);
    }

    /** "if 300 slices are under way (this one .. not counted), it is dropped (reason 5)" */
    private static void threeHundredAndThisOne() {
        StubbornBridges x = Checks.pair(16, 50, 1000);
        x.send(0, 1, 8, 0, 41);
        for (int i = x.count(3); i < 300; i++) x.resend(0);
        x.ticks(1);
        Checks.due("300: each goes on beside 299 others", x.count(15), 0);
        Checks.due("300: all came to the bridge", x.ofBridge(0, 6), 300);
        Checks.due("300: under way", x.count(3), 300);
    }

    /** "(this one, and others that were cut with it and have not gone on yet, not counted)" */
    private static void threeHundredAndItsPieces() {
        for (int others = 297; others <= 299; others++) {
            StubbornBridges x = Checks.pair(16, 1, 1000);
            // The first slice is treated first; the forged ones wait in the same tick.
            x.send(0, 1, 24, 0, 41);
            x.send(2, 3, 4000, 0, 41);
            for (int i = 1; i < others; i++) x.forge(1, i, 1, 0, 0);
            x.ticks(1);
            Checks.due("300: beside " + others + " dropped", x.count(15), 3 - (300 - others));
            Checks.due("300: beside " + others + " gone on", x.count(3), 300 - others);
            Checks.due("300: beside " + others + " counted", x.ofBridge(0, 6), 300 - others);
            Checks.due("300: beside " + others + " of the parcel", x.ofParcel(0, 13), 3 - (300 - others));
            x.ticks(1);
            Checks.due("300: beside " + others + " the first ones", x.gap(0, 0), others == 297 ? -6 : 8 * (300 - others));
        }
        StubbornBridges x = Checks.pair(16, 1, 1000);
        x.send(2, 3, 4000, 0, 41);
        for (int i = 1; i < 299; i++) x.forge(0, i, 1, 0, 0);
        x.send(0, 1, 24, 0, 41);
        x.ticks(1);
        Checks.due("300: those made before it are put before it goes on", x.count(15), 0);
        Checks.due("300: three go on", x.count(3), 3);
    }

    /** "Otherwise the bridge counts it": what is dropped for the reason 5 takes no turn. */
    private static void droppedForRoomIsNotCounted() {
        StubbornBridges x = Checks.pair(16, 50, 1000);
        x.mend(0, 16, 4);
        x.send(0, 1, 8, 0, 41);
        for (int i = x.count(3); i < 299; i++) x.resend(0);
        x.ticks(1);
        Checks.due("turns: 74 of 299 are lost", x.count(14), 74);
        Checks.due("turns: 225 go on", x.count(3), 225);
        x.mend(0, 16, 50);
        x.send(0, 1, 800, 0, 41);
        x.ticks(1);
        // 49 go on, the 50th is lost and leaves its place, 26 more go on; 24 find 300.
        Checks.due("turns: one is lost", x.count(14), 75);
        Checks.due("turns: 300 are under way", x.count(3), 300);
        Checks.due("turns: the others are dropped", x.count(15), 100 - 76);
        Checks.due("turns: and not counted", x.ofBridge(0, 6), 76);
    }

    /** "The slices that arrive in this tick, in the order in which they were made, are treated one after the other" */
    private static void madeBefore() {
        // The second one was made later and goes a shorter way; both arrive in the tick 3.
        StubbornBridges x = new StubbornBridges();
        x.bridge(0, 2, 100, 3, 1000);
        x.bridge(1, 2, 100, 1, 1000);
        x.route(0, 2, 0);
        x.route(1, 2, 1);
        x.node(2, 0, 60, 64);
        x.send(0, 2, 60, 0, 41);
        x.ticks(2);
        x.send(1, 2, 65, 0, 41);
        x.forge(0, 0, 10, 0, 0);
        x.ticks(1);
        Checks.due("made: ten bytes are there", x.ofNode(2, 3), 10);
        x.ticks(1);
        Checks.due("made: the first one is whole before", x.ofParcel(0, 5), 1);
        Checks.due("made: the second one is too big then", x.ofParcel(1, 5), 4);
        // The other way round, the second one evicts the first one, of which ten bytes are there.
        StubbornBridges y = new StubbornBridges();
        y.bridge(0, 2, 100, 1, 1000);
        y.bridge(1, 2, 100, 3, 1000);
        y.route(0, 2, 0);
        y.route(1, 2, 1);
        y.node(2, 0, 60, 64);
        y.send(1, 2, 60, 0, 41);
        y.ticks(2);
        y.send(0, 2, 50, 0, 41);
        y.forge(1, 0, 10, 0, 0);
        y.ticks(2);
        Checks.due("made: evicted before it is whole", y.ofParcel(1, 5), 4);
        Checks.due("made: the one made first is whole", y.ofParcel(0, 5), 1);
    }

    /** "Then, node by node, each parcel that is not whole there .. is given up": after the slices of the tick. */
    private static void timeOutAfterTheSlices() {
        StubbornBridges x = new StubbornBridges();
        x.node(1, 0, 3, 8000);
        for (int i = 0; i < 3; i++) {
            x.send(0, 1, 10, 0, 41);
            x.forge(i, 0, 5, 0, 0);
        }
        x.ticks(3);
        x.forge(0, 5, 5, 1, 0);
        x.forge(1, 5, 4, 0, 0);
        x.ticks(1);
        int[] states = {1, 3, 3};
        for (int i = 0; i < 3; i++) {
            Checks.due("time-out: parcel " + i, x.ofParcel(i, 5), states[i]);
            Checks.due("time-out: when, " + i, x.ofParcel(i, 11), 3);
        }
        Checks.due("time-out: then the tick increases", x.count(0), 4);
    }

    /** "as many ticks ago as the time-out of the node, or more": of the node to which it goes. */
    private static void timeOutsOfSeveralNodes() {
        StubbornBridges x = new StubbornBridges();
        for (int node = 1; node < 8; node++) {
            x.node(node, 0, node, 8000);
            x.send(0, node, 10, 0, 41);
            x.forge(node - 1, 0, 5, 0, 0);
        }
        for (int tick = 0; tick < 9; tick++) {
            Checks.due("time-outs: before the tick " + tick, x.count(23), Math.max(0, tick - 1));
            x.ticks(1);
        }
        for (int node = 1; node < 8; node++) Checks.due("time-outs: of " + node, x.ofParcel(node - 1, 11), node);
        StubbornBridges y = new StubbornBridges();
        y.send(0, 1, 10, 0, 41);
        y.forge(0, 0, 5, 0, 0);
        y.ticks(50);
        y.node(1, 0, 49, 8000);
        y.ticks(1);
        Checks.due("time-outs: or more", y.ofParcel(0, 11), 50);
        StubbornBridges z = new StubbornBridges();
        z.send(0, 1, 10, 0, 41);
        z.forge(0, 0, 5, 0, 0);
        z.ticks(50);
        z.node(1, 0, 51, 8000);
        z.ticks(1);
        Checks.due("time-outs: not yet", z.ofParcel(0, 5), 0);
        z.ticks(1);
        Checks.due("time-outs: then", z.ofParcel(0, 11), 51);
    }

    /** "whose first slice was put there": what was dropped was not put. */
    private static void timeOutFromTheFirstSliceThatWasPut() {
        StubbornBridges x = new StubbornBridges();
        x.node(1, 0, 5, 8000);
        x.send(0, 1, 10, 0, 41);
        x.forge(0, 3999, 2, 0, 0);
        x.ticks(2);
        x.forge(0, 2, 2, 0, 0);
        x.ticks(3);
        x.forge(0, 4, 2, 0, 0);
        x.ticks(2);
        Checks.due("first slice: not yet", x.ofParcel(0, 5), 0);
        x.ticks(1);
        Checks.due("first slice: five ticks after it", x.ofParcel(0, 11), 7);
    }

    /** "each parcel that is not whole there" */
    private static void timeOutNotOfWhatIsDone() {
        StubbornBridges x = EdgesOfParcelsTest.everyState();
        int[] when = {-6, 1, 1, 2, 1, 1};
        x.ticks(500);
        for (int state = 0; state <= 5; state++) {
            Checks.due("done: state " + state, x.ofParcel(state, 5), state);
            Checks.due("done: when, state " + state, x.ofParcel(state, 11), when[state]);
            Checks.due("done: how many in the state " + state, x.count(20 + state), 1);
        }
    }

    /** A state can become another one in the tick 0. */
    private static void stateOfTheFirstTick() {
        StubbornBridges x = new StubbornBridges();
        x.send(0, 1, 10, 0, 41);
        Checks.due("tick 0: not yet", x.ofParcel(0, 11), -6);
        x.forge(0, 0, 10, 1, 0);
        x.ticks(1);
        Checks.due("tick 0: whole", x.ofParcel(0, 5), 1);
        Checks.due("tick 0: when", x.ofParcel(0, 11), 0);
    }

    /** "1. If the parcel is not ON_ITS_WAY any more, the slice is dropped (reason 7)." */
    private static void lateInEveryState() {
        StubbornBridges x = EdgesOfParcelsTest.everyState();
        int late = x.count(17), put = x.count(6);
        for (int state = 1; state <= 5; state++) {
            int lost = x.ofParcel(state, 13);
            // It would not fit either, but that is looked at later.
            x.forge(state, 3999, 1500, 1, 0);
            x.ticks(1);
            Checks.due("late: in the state " + state, x.count(17), late + state);
            Checks.due("late: its account " + state, x.ofParcel(state, 13), lost + 1);
            Checks.due("late: nothing is there " + state, x.ofParcel(state, 8), 0);
        }
        Checks.due("late: no misfit", x.count(16), 0);
        Checks.due("late: none was put", x.count(6), put);
    }

    /** A parcel of which the bytes 20 to 29 are there, the last ones of it if so marked; what was sent found no route. */
    private static StubbornBridges twenties(boolean last) {
        StubbornBridges x = new StubbornBridges();
        x.send(0, 1, 100, 0, 41);
        x.forge(0, 20, 10, last ? 1 : 0, 0);
        x.ticks(1);
        return x;
    }

    private static void fits(boolean known, int offset, int length, int last, int misfits) {
        StubbornBridges x = twenties(known);
        x.forge(0, offset, length, last, 0);
        x.ticks(1);
        String call = (known ? "known, " : "not known, ") + offset + "+" + length + (last == 1 ? "." : "");
        Checks.due(call + ": dropped for the reason 6", x.count(16), misfits);
        Checks.due(call + ": dropped of the parcel", x.ofParcel(0, 13), 1 + misfits);
        Checks.due(call + ": put", x.count(6), 2 - misfits);
    }

    /** "2. If the length of the whole is known by a last slice, and .. another end, or its end is beyond it; or .." */
    private static void endsThatDoNotFit() {
        fits(true, 0, 29, 1, 1);
        fits(true, 0, 31, 1, 1);
        fits(true, 29, 2, 0, 1);
        fits(true, 30, 1, 0, 1);
        fits(true, 30, 1, 1, 1);
        fits(true, 3999, 1, 0, 1);
        fits(true, 0, 1, 1, 1);
        fits(false, 0, 29, 1, 1);
        fits(false, 0, 20, 1, 1);
        fits(false, 28, 1, 1, 1);
        fits(false, 3999, 2, 0, 1);
    }

    /** What lies next to those edges is put. */
    private static void endsThatFit() {
        fits(true, 29, 1, 1, 0);
        fits(true, 29, 1, 0, 0);
        fits(true, 0, 20, 0, 0);
        fits(true, 1, 29, 1, 0);
        fits(false, 29, 1, 1, 0);
        fits(false, 0, 30, 0, 0);
        fits(false, 30, 1, 1, 0);
        fits(false, 20, 11, 1, 0);
        fits(false, 3999, 1, 1, 0);
        fits(false, 3999, 1, 0, 0);
        StubbornBridges x = twenties(true);
        Checks.due("the length", x.ofParcel(0, 9), 30);
        x.forge(0, 25, 5, 1, 0);
        x.ticks(1);
        Checks.due("the same end again", x.ofParcel(0, 9), 30);
        StubbornBridges y = twenties(false);
        y.forge(0, 0, 30, 1, 0);
        y.ticks(1);
        Checks.due("an end right behind what is there", y.ofParcel(0, 5), 2);
    }

    /** "or if its end is beyond 4000" */
    private static void beyond4000() {
        int[][] offsetLengthMisfit = {{2500, 1500, 0}, {2501, 1500, 1}, {3999, 1, 0}, {3999, 2, 1}, {3999, 1500, 1}, {3000, 1000, 0}};
        for (int[] row : offsetLengthMisfit) {
            for (int last = 0; last <= 1; last++) {
                StubbornBridges x = new StubbornBridges();
                x.send(0, 1, 4000, 0, 41);
                x.forge(0, row[0], row[1], last, 0);
                x.ticks(1);
                Checks.due("4000: " + row[0] + "+" + row[1], x.count(16), row[2]);
                Checks.due("4000: there", x.ofParcel(0, 8), row[2] == 1 ? 0 : row[1]);
                Checks.due("4000: the length", x.ofParcel(0, 9), row[2] == 1 || last == 0 ? -6 : 4000);
            }
        }
    }

    /** Step 2 comes before step 3. */
    private static void misfitBeforeRefusal() {
        StubbornBridges x = new StubbornBridges();
        x.node(1, 2, 60, 8000);
        x.send(0, 1, 100, 0, 41);
        x.forge(0, 20, 10, 1, 0);
        x.ticks(1);
        x.forge(0, 25, 6, 0, 0);
        x.forge(0, 20, 9, 1, 0);
        x.ticks(1);
        Checks.due("misfit: both are dropped", x.count(16), 2);
        Checks.due("misfit: not refused", x.ofParcel(0, 5), 0);
        x.forge(0, 29, 1, 1, 0);
        x.ticks(1);
        Checks.due("misfit: refused by one that fits", x.ofParcel(0, 5), 5);
    }

    /** What is dropped makes no length known, takes no space and counts as not put. */
    private static void misfitIsNotPut() {
        StubbornBridges x = new StubbornBridges();
        x.node(1, 0, 60, 64);
        x.send(0, 1, 100, 0, 41);
        x.send(0, 1, 100, 0, 41);
        x.forge(0, 0, 64, 0, 0);
        x.forge(1, 3900, 101, 1, 0);
        x.ticks(1);
        Checks.due("misfit: no length", x.ofParcel(1, 9), -6);
        Checks.due("misfit: no bytes", x.ofParcel(1, 8), 0);
        Checks.due("misfit: no one is evicted", x.count(24), 0);
        Checks.due("misfit: one was put", x.count(6), 1);
        Checks.due("misfit: one parcel is there", x.ofNode(1, 4), 1);
    }

    /** "3. If a byte of it is there already": one byte is enough, at either end. */
    private static void overlapByOneByte() {
        for (int way = 0; way <= 2; way++) {
            int[][] offsetLength = {{16, 5}, {29, 5}, {24, 1}, {20, 1}, {20, 10}, {0, 100}};
            for (int[] row : offsetLength) {
                StubbornBridges x = twenties(false);
                x.node(1, way, 60, 8000);
                x.forge(0, row[0], row[1], 0, 9);
                x.ticks(1);
                Checks.due("overlap: state", x.ofParcel(0, 5), way == 2 ? 5 : 0);
                Checks.due("overlap: put", x.count(6), 2);
                Checks.due("overlap: none is dropped", x.ofParcel(0, 13) - x.count(12), 0);
                for (int at = 0; at <= 100; at++) {
                    boolean was = at >= 20 && at < 30, is = at >= row[0] && at < row[0] + row[1];
                    int want = was && (way == 0 || !is) ? Checks.byteOf(0, at) : is ? Checks.byteOf(9, at) : -6;
                    Checks.due("overlap by " + row[0] + "+" + row[1] + ", byte " + at, x.byteAt(0, at), way == 2 ? -6 : want);
                }
            }
        }
    }

    private static void nextToEachOtherIsNoOverlap() {
        StubbornBridges x = twenties(false);
        x.node(1, 2, 60, 8000);
        x.forge(0, 15, 5, 0, 0);
        x.forge(0, 30, 5, 0, 0);
        x.forge(0, 36, 5, 0, 0);
        x.ticks(1);
        Checks.due("next to each other: not refused", x.ofParcel(0, 5), 0);
        Checks.due("next to each other: there", x.ofParcel(0, 8), 25);
        x.forge(0, 35, 2, 0, 0);
        x.ticks(1);
        Checks.due("next to each other: refused", x.ofParcel(0, 5), 5);
        Checks.due("next to each other: since", x.ofParcel(0, 11), 2);
    }

    /** The way is that of the node to which the parcel goes. */
    private static void waysOfOtherNodes() {
        StubbornBridges x = new StubbornBridges();
        x.node(0, 2, 60, 8000);
        x.node(2, 1, 60, 8000);
        x.send(0, 1, 100, 0, 41);
        x.forge(0, 0, 2, 0, 1);
        x.forge(0, 0, 2, 0, 2);
        x.ticks(1);
        Checks.due("way of the node 1: byte", x.byteAt(0, 0), Checks.byteOf(1, 0));
        Checks.due("way of the node 1: state", x.ofParcel(0, 5), 0);
    }

    private static void wayChangedLater() {
        StubbornBridges x = twenties(false);
        x.forge(0, 20, 1, 0, 7);
        x.node(1, 1, 60, 8000);
        x.ticks(1);
        Checks.due("way: that of the tick in which it is put", x.byteAt(0, 20), Checks.byteOf(7, 20));
        x.forge(0, 20, 1, 0, 8);
        x.node(1, 0, 60, 8000);
        x.ticks(1);
        Checks.due("way: bytes that are there stay", x.byteAt(0, 20), Checks.byteOf(7, 20));
    }

    /** "by the way 2, the parcel is REFUSED, and all that was there of it is gone (the slice counts as put)" */
    private static void refusedIsGone() {
        StubbornBridges x = twenties(true);
        x.node(1, 2, 60, 8000);
        x.forge(0, 10, 20, 1, 0);
        x.forge(0, 0, 10, 0, 0);
        x.ticks(1);
        int[] want = {0, 1, 100, 0, 1, 5, 1, 0, 0, -6, 0, 1};
        for (int what = 0; what < want.length; what++) Checks.due("refused: " + what, x.ofParcel(0, what), want[what]);
        Checks.due("refused: counts as put", x.count(6), 2);
        Checks.due("refused: the next one is late", x.count(17), 1);
        Checks.due("refused: nothing at the node", x.ofNode(1, 3) + x.ofNode(1, 4), 0);
        for (int at = 0; at < 40; at++) Checks.due("refused: byte " + at, x.byteAt(0, at), -6);
        Checks.due("refused: dropped are no route and the late one", x.ofParcel(0, 13), 2);
    }
}

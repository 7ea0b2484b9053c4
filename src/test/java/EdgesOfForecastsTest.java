/** The edges of promises 15 to 20; above each test stands its sentence. */
public final class EdgesOfForecastsTest {
    private static final int MIN = Integer.MIN_VALUE, MAX = Integer.MAX_VALUE;

    public static void main(String[] args) {
        orderOfErrors();
        noneIsReturnedLast();
        leastRoomAlongTheRoutes();
        theLongestWay();
        oneWayAfterAnother();
        roundAndRound();
        throughTheNode();
        sizesAtTheirEdges();
        noneIsDroppedOnTheWay();
        hopsDoNotMatter();
        slicesAsTheyCome();
        theLatestSlice();
        sentNow();
        stateInAtItsEdges();
        stateInOfEveryState();
        doneInAtItsEdges();
        doneInOfEveryState();
        nothingElseIsDone();
        nothingChanges();
        gapsOfNothing();
        gapsAtTheirEdges();
        gapOfAllBytes();
        Checks.finish();
    }

    /** "NO_SUCH if there is no such node, or both are the same; BAD_VALUE if size is out of range" */
    private static void orderOfErrors() {
        StubbornBridges x = Checks.pair(100, 1, 1);
        for (int node : new int[] {MIN, -6, -1, 8, 9, MAX}) {
            for (int size : new int[] {0, 1, 4001}) {
                Checks.due("16: no from", x.slices(node, 1, size), -1);
                Checks.due("16: no to", x.slices(0, node, size), -1);
                Checks.due("17: no from", x.time(node, 1, size), -1);
                Checks.due("17: no to", x.time(0, node, size), -1);
            }
            Checks.due("15: no from", x.leastRoom(node, 1), -1);
            Checks.due("15: no to", x.leastRoom(0, node), -1);
            Checks.due("15: neither, and the same", x.leastRoom(node, node), -1);
        }
        for (int node = 0; node < 8; node++) {
            Checks.due("15: the same", x.leastRoom(node, node), -1);
            Checks.due("16: the same", x.slices(node, node, 0), -1);
            Checks.due("17: the same", x.time(node, node, 0), -1);
        }
        for (int parcel : new int[] {MIN, -6, -1, 0, 1, 39, 40, MAX}) {
            Checks.due("18: no parcel", x.stateIn(parcel, 0), -1);
            Checks.due("18: no parcel", x.stateIn(parcel, 1), -1);
            Checks.due("19: no parcel", x.doneIn(parcel), -1);
            Checks.due("20: no parcel", x.gap(parcel, 2), -1);
            Checks.due("20: no parcel", x.gap(parcel, 0), -1);
        }
    }

    /** "NONE (-6) is not an error; it is returned only if no error applies." */
    private static void noneIsReturnedLast() {
        StubbornBridges x = new StubbornBridges();
        for (int size : new int[] {MIN, -1, 0, 4001, MAX}) {
            Checks.due("16: size " + size + ", no routes", x.slices(0, 1, size), -2);
            Checks.due("17: size " + size + ", no routes", x.time(0, 1, size), -2);
        }
        Checks.due("15: no routes", x.leastRoom(0, 1), -6);
        Checks.due("16: no routes", x.slices(0, 1, 1), -6);
        Checks.due("17: no routes", x.time(0, 1, 4000), -6);
        x.send(0, 1, 1, 0, 41);
        for (int what : new int[] {MIN, -1, 2, MAX}) Checks.due("20: what " + what + ", nothing there", x.gap(0, what), -2);
    }

    /** "the least room of the bridges along the routes": wherever it is, and as it is now. */
    private static void leastRoomAlongTheRoutes() {
        int[][] rooms = {{16, 1500, 1500}, {1500, 16, 1500}, {1500, 1500, 16}, {1500, 1500, 1500}, {16, 16, 16}, {17, 16, 18}};
        int[] least = {16, 16, 16, 1500, 16, 16};
        for (int i = 0; i < rooms.length; i++) {
            StubbornBridges x = new StubbornBridges();
            for (int k = 0; k < 3; k++) {
                x.bridge(k, k + 1, rooms[i][k], 1, 1);
                x.route(k, 3, k);
            }
            // A bridge that is on no route.
            x.bridge(0, 3, 16, 1, 1);
            Checks.due("15: rooms " + i, x.leastRoom(0, 3), least[i]);
            Checks.due("15: the last bridge of " + i, x.leastRoom(2, 3), rooms[i][2]);
            x.mend(1, 15 + 5, 0);
            Checks.due("15: mended " + i, x.leastRoom(1, 3), Math.min(20, rooms[i][2]));
            x.route(0, 3, 3);
            Checks.due("15: another route", x.leastRoom(0, 3), 16);
        }
    }

    /** Seven bridges are the most that routes can lead over. */
    private static void theLongestWay() {
        int[] order = {3, 0, 7, 5, 1, 6, 2, 4};
        StubbornBridges x = new StubbornBridges();
        for (int i = 0; i < 7; i++) {
            x.bridge(order[i], order[i + 1], 100 - i, 2, 1000);
            x.route(order[i], 4, i);
        }
        Checks.due("15: seven bridges", x.leastRoom(3, 4), 94);
        Checks.due("16: seven bridges", x.slices(3, 4, 86), 1);
        Checks.due("16: seven bridges", x.slices(3, 4, 87), 2);
        Checks.due("17: seven bridges", x.time(3, 4, 1), 14);
        x.send(3, 4, 1, 0, 14);
        x.send(3, 4, 1, 0, 12);
        x.ticks(15);
        Checks.due("15: a slice goes over them", x.ofParcel(0, 5), 1);
        Checks.due("15: six hops are not enough", x.count(11), 1);
        x.route(2, 4, -6);
        Checks.due("15: the last one is gone", x.leastRoom(3, 4), -6);
        Checks.due("16: the last one is gone", x.slices(3, 4, 1), -6);
        Checks.due("17: the last one is gone", x.time(3, 4, 1), -6);
    }

    /** What was asked before tells nothing: neither a longer way nor a shorter one. */
    private static void oneWayAfterAnother() {
        StubbornBridges x = new StubbornBridges();
        int[] rooms = {1500, 16, 16}, paces = {24, 16, 16};
        for (int k = 0; k < 3; k++) {
            x.bridge(k, k + 1, rooms[k], k + 1, paces[k]);
            for (int to = k + 1; to < 4; to++) x.route(k, to, k);
        }
        // From, to, the least room, and of 16 bytes the slices and the ticks.
        int[][] ways = {{0, 1, 1500, 1, 2}, {0, 2, 16, 2, 5}, {0, 3, 16, 2, 9}, {1, 2, 16, 2, 3}, {1, 3, 16, 2, 7}, {2, 3, 16, 2, 4}};
        for (int[] before : ways) {
            for (int[] way : ways) {
                String told = way[0] + " to " + way[1] + " after " + before[0] + " to " + before[1];
                x.time(before[0], before[1], 16);
                Checks.due("15: " + told, x.leastRoom(way[0], way[1]), way[2]);
                x.time(before[0], before[1], 16);
                Checks.due("16: " + told, x.slices(way[0], way[1], 16), way[3]);
                x.time(before[0], before[1], 16);
                Checks.due("17: " + told, x.time(way[0], way[1], 16), way[4]);
            }
        }
    }

    /** "NONE if the routes do not lead there": they go round, with the first node in it or not. */
    private static void roundAndRound() {
        for (int back = 0; back < 7; back++) {
            StubbornBridges x = new StubbornBridges();
            for (int i = 0; i < 6; i++) {
                x.bridge(i, i + 1, 100, 1, 1);
                x.route(i, 7, i);
            }
            if (back < 6) {
                x.bridge(6, back, 100, 1, 1);
                x.route(6, 7, 6);
            }
            Checks.due("15: back to " + back, x.leastRoom(0, 7), -6);
            Checks.due("16: back to " + back, x.slices(0, 7, 1), -6);
            Checks.due("17: back to " + back, x.time(0, 7, 1), -6);
        }
    }

    /** The routes to another node that lead through this one do not matter. */
    private static void throughTheNode() {
        StubbornBridges x = new StubbornBridges();
        x.bridge(0, 1, 100, 1, 1000);
        x.bridge(1, 2, 50, 1, 1000);
        x.bridge(0, 2, 20, 1, 1000);
        x.route(0, 2, 0);
        x.route(1, 2, 1);
        x.route(0, 1, 2);
        Checks.due("15: by the routes to 2", x.leastRoom(0, 2), 50);
        Checks.due("15: by the routes to 1", x.leastRoom(0, 1), -6);
    }

    /** "size: 1 to 4000" */
    private static void sizesAtTheirEdges() {
        StubbornBridges x = Checks.pair(16, 1, 1);
        for (int size : new int[] {MIN, -1, 0, 4001, MAX}) {
            Checks.due("16: size " + size, x.slices(0, 1, size), -2);
            Checks.due("17: size " + size, x.time(0, 1, size), -2);
        }
        int[] sizes = {1, 7, 8, 9, 15, 16, 17, 3992, 3993, 4000}, want = {1, 1, 1, 2, 2, 2, 3, 499, 500, 500};
        int[] ticks = {10, 16, 17, 17, 17, 17, 17, 17, 17, 17};
        for (int i = 0; i < sizes.length; i++) {
            Checks.due("16: size " + sizes[i], x.slices(0, 1, sizes[i]), want[i]);
            Checks.due("17: size " + sizes[i], x.time(0, 1, sizes[i]), ticks[i]);
        }
    }

    /** "if none were dropped": neither by turns nor for want of room; nor is anything counted. */
    private static void noneIsDroppedOnTheWay() {
        StubbornBridges x = Checks.pair(16, 1, 1000);
        x.mend(0, 16, 1);
        Checks.due("16: all would be lost", x.slices(0, 1, 24), 3);
        Checks.due("17: all would be lost", x.time(0, 1, 24), 1);
        Checks.due("16: no count", x.ofBridge(0, 6), 0);
        x.send(0, 1, 1, 0, 41);
        for (int i = x.count(3); i < 300; i++) x.resend(0);
        Checks.due("16: 300 under way", x.slices(0, 1, 4000), 500);
        Checks.due("17: 300 under way", x.time(0, 1, 4000), 1);
    }

    /** "and hops did not matter": no way without a round is longer than 20, so nothing could be seen. */
    private static void hopsDoNotMatter() {
        StubbornBridges x = new StubbornBridges();
        for (int i = 0; i < 7; i++) {
            x.bridge(i, i + 1, 1500 - 200 * i, 50, 1);
            x.route(i, 7, i);
        }
        // 8 bytes more for each of the seven bridges.
        Checks.due("17: seven bridges", x.time(0, 7, 1), 7 * 50 + 7 * 9);
        Checks.due("16: seven bridges", x.slices(0, 7, 292), 1);
        Checks.due("16: seven bridges", x.slices(0, 7, 293), 2);
    }

    /** As many come, and as late, as is foreseen. */
    private static void slicesAsTheyCome() {
        int[] rooms = {200, 100, 61, 40, 33};
        for (int size = 1; size <= 1000; size += 37) {
            StubbornBridges x = new StubbornBridges();
            for (int i = 0; i < 5; i++) {
                x.bridge(i, i + 1, rooms[i], 1 + i, 7 + i);
                x.route(i, 5, i);
            }
            int slices = x.slices(0, 5, size), time = x.time(0, 5, size);
            x.send(0, 5, size, 1, 41);
            x.ticks(time);
            Checks.due("17: size " + size + ", not yet", x.ofParcel(0, 5), 0);
            x.ticks(1);
            Checks.due("17: size " + size + ", whole", x.ofParcel(0, 5), 1);
            Checks.due("16: size " + size, x.count(6), slices);
        }
    }

    /** "after how many ticks the last one of the slices .. would arrive": the latest, whatever its mark. */
    private static void theLatestSlice() {
        StubbornBridges x = Checks.pair(1008, 1, 1);
        Checks.due("17: one of 1000", x.time(0, 1, 1000), 1009);
        Checks.due("17: 1000 and 1", x.time(0, 1, 1001), 1009);
        Checks.due("17: 1000, 1000, 1000 and 999", x.time(0, 1, 3999), 1009);
        Checks.due("17: one of 999", x.time(0, 1, 999), 1008);
    }

    /** "of a parcel that is sent now": the tick and what is under way do not matter. */
    private static void sentNow() {
        StubbornBridges x = Checks.pair(24, 7, 5);
        int time = x.time(0, 1, 100);
        Checks.due("17: 7 + 24 / 5", time, 11);
        x.send(0, 1, 100, 0, 41);
        x.ticks(123);
        Checks.due("17: later", x.time(0, 1, 100), time);
    }

    /** "ticks: 1 to 500" */
    private static void stateInAtItsEdges() {
        StubbornBridges x = new StubbornBridges();
        x.node(1, 0, 499, 64);
        x.node(2, 0, 500, 64);
        x.send(0, 1, 9, 0, 41);
        x.send(0, 2, 9, 0, 41);
        x.send(0, 3, 9, 0, 41);
        for (int i = 0; i < 3; i++) x.forge(i, 0, i == 2 ? 9 : 1, i == 2 ? 1 : 0, 0);
        for (int ticks : new int[] {MIN, -1, 0, 501, 502, 1000, MAX}) Checks.due("18: ticks " + ticks, x.stateIn(0, ticks), -2);
        Checks.due("18: one tick", x.stateIn(2, 1), 1);
        Checks.due("18: still", x.stateIn(2, 500), 1);
        Checks.due("18: 499 ticks", x.stateIn(0, 499), 0);
        Checks.due("18: 500 ticks", x.stateIn(0, 500), 3);
        Checks.due("18: not within 500", x.stateIn(1, 500), 0);
        x.ticks(1);
        Checks.due("18: within 500", x.stateIn(1, 500), 3);
        Checks.due("18: not within 499", x.stateIn(1, 499), 0);
    }

    /** A state that is not ON_ITS_WAY stays. */
    private static void stateInOfEveryState() {
        StubbornBridges x = EdgesOfParcelsTest.everyState();
        for (int state = 0; state <= 5; state++) {
            if (state > 0) x.forge(state, 0, 10, 1, 0);
            Checks.due("18: after one tick", x.stateIn(state, 1), state);
            Checks.due("18: after 500 ticks", x.stateIn(state, 500), state);
            Checks.due("18: ticks are looked at", x.stateIn(state, 0), -2);
            Checks.due("18: ticks are looked at", x.stateIn(state, 501), -2);
        }
    }

    /** "(0 if it is so now)"; "NONE if it is not so within 1000 ticks" */
    private static void doneInAtItsEdges() {
        StubbornBridges x = new StubbornBridges();
        x.bridge(0, 1, 1500, 10, 1);
        x.route(0, 1, 0);
        int[] sizes = {1, 480, 980, 981, 982, 983}, want = {20, 499, 999, 1000, -6, -6};
        for (int i = 0; i < sizes.length; i++) {
            x.send(0, 1, sizes[i], 0, 40);
            Checks.due("19: size " + sizes[i], x.doneIn(i), want[i]);
        }
        x.ticks(1);
        int[] later = {19, 498, 998, 999, 1000, -6};
        for (int i = 0; i < sizes.length; i++) Checks.due("19: one tick later, " + i, x.doneIn(i), later[i]);
        x.ticks(500);
        x.ticks(498);
        int[] last = {0, 0, 0, 1, 2, 3};
        for (int i = 0; i < sizes.length; i++) Checks.due("19: 999 ticks later, " + i, x.doneIn(i), last[i]);
    }

    private static void doneInOfEveryState() {
        StubbornBridges x = EdgesOfParcelsTest.everyState();
        for (int state = 1; state <= 5; state++) Checks.due("19: it is so now, " + state, x.doneIn(state), 0);
        Checks.due("19: on its way for ever", x.doneIn(0), -6);
        // Each of the five ways in which it can be done.
        StubbornBridges y = new StubbornBridges();
        y.node(1, 2, 7, 64);
        for (int i = 0; i < 5; i++) y.send(0, 1, 10, 0, 41);
        y.forge(0, 0, 10, 1, 0);
        y.forge(1, 0, 9, 1, 0);
        y.forge(3, 0, 65, 0, 0);
        y.forge(4, 0, 1, 0, 0);
        y.forge(4, 0, 1, 0, 0);
        y.forge(2, 0, 5, 0, 0);
        int[] states = {1, 2, 3, 4, 5}, in = {1, 1, 8, 1, 1};
        for (int i = 0; i < 5; i++) {
            Checks.due("19: done in, " + i, y.doneIn(i), in[i]);
            Checks.due("18: then, " + i, y.stateIn(i, 8), states[i]);
        }
    }

    /** "if nothing else is done": what is under way goes on, nothing is sent again. */
    private static void nothingElseIsDone() {
        StubbornBridges x = Checks.pair(16, 1, 1000);
        x.mend(0, 16, 3);
        x.send(0, 1, 24, 0, 41);
        Checks.due("18: the third piece is lost, so it times out", x.stateIn(0, 62), 3);
        Checks.due("18: not before", x.stateIn(0, 61), 0);
        Checks.due("19: 1 + 60 + 1", x.doneIn(0), 62);
        x.ticks(2);
        Checks.due("19: two ticks later", x.doneIn(0), 60);
        x.mend(0, 16, 0);
        Checks.due("19: a mended bridge sends nothing again", x.doneIn(0), 60);
        x.resend(0);
        Checks.due("19: sent again", x.doneIn(0), 2);
        Checks.due("18: before", x.stateIn(0, 1), 0);
        Checks.due("18: then", x.stateIn(0, 2), 1);
    }

    private static void nothingChanges() {
        StubbornBridges x = Checks.pair(16, 2, 1000);
        x.mend(0, 16, 4);
        x.send(0, 1, 50, 0, 41);
        x.send(0, 1, 50, 0, 40);
        x.forge(0, 60, 5, 0, 0);
        x.put(Checks.number("t1;"));
        x.ticks(1);
        int[] before = Checks.everything(x);
        for (int i = 0; i < 3; i++) {
            x.stateIn(0, 1);
            x.stateIn(1, 500);
            x.doneIn(0);
            x.leastRoom(0, 1);
            x.slices(0, 1, 4000);
            x.time(0, 1, 4000);
            x.gap(0, 1);
            x.fault();
        }
        Checks.same("what if", Checks.everything(x), before);
    }

    /** "NONE if the parcel is not ON_ITS_WAY, or nothing of it is there" */
    private static void gapsOfNothing() {
        StubbornBridges x = EdgesOfParcelsTest.everyState();
        for (int parcel = 0; parcel <= 5; parcel++) {
            for (int what = -2; what <= 3; what++) {
                Checks.due("20: state " + parcel + ", what " + what, x.gap(parcel, what), what == 0 || what == 1 ? -6 : -2);
            }
        }
    }

    /** "from the first one that is not there to the next one that is, or to the end of the whole" */
    private static void gapsAtTheirEdges() {
        int[][] beginEnd = {{0, 1}, {0, 4}, {1, 2}, {1, 3999}, {3998, 3999}, {5, 900}, {0, 3999}};
        for (int[] row : beginEnd) {
            for (int last = 0; last <= 1; last++) {
                StubbornBridges x = new StubbornBridges();
                x.send(0, 1, 4000, 0, 41);
                for (int at = 0; at < row[0]; at += 1500) x.forge(0, at, Math.min(1500, row[0] - at), 0, 0);
                x.forge(0, row[1], 1, last, 0);
                x.ticks(1);
                Checks.due("20: from " + row[0] + " to " + row[1], x.gap(0, 0), row[0]);
                Checks.due("20: length of " + row[0] + " to " + row[1], x.gap(0, 1), row[1] - row[0]);
            }
        }
        StubbornBridges x = new StubbornBridges();
        x.send(0, 1, 4000, 0, 41);
        x.forge(0, 0, 10, 0, 0);
        x.ticks(1);
        Checks.due("20: nothing is there behind it", x.gap(0, 1), -6);
        Checks.due("20: but it begins", x.gap(0, 0), 10);
        x.forge(0, 20, 10, 1, 0);
        x.forge(0, 12, 1, 0, 0);
        x.ticks(1);
        Checks.due("20: two bytes", x.gap(0, 1), 2);
        x.forge(0, 10, 2, 0, 0);
        x.ticks(1);
        Checks.due("20: the second stretch", x.gap(0, 0), 13);
        Checks.due("20: seven bytes", x.gap(0, 1), 7);
    }

    /** All bytes are there, and the length is not known: it begins behind the last one, and has no end. */
    private static void gapOfAllBytes() {
        StubbornBridges x = new StubbornBridges();
        x.send(0, 1, 4000, 0, 41);
        Checks.forgeAllBytes(x, 0);
        x.ticks(1);
        Checks.due("20: of 4000 bytes", x.gap(0, 0), 4000);
        Checks.due("20: of 4000 bytes", x.gap(0, 1), -6);
    }
}

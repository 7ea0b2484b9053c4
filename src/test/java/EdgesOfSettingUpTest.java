/** The edges of promises 1 to 5 and of the terms "Nodes, bridges, routes"; above each test stands its sentence. */
public final class EdgesOfSettingUpTest {
    private static final int MIN = Integer.MIN_VALUE, MAX = Integer.MAX_VALUE;

    public static void main(String[] args) {
        eightNodes();
        wayAtFirst();
        timeOutsAtTheirEdges();
        spacesAtTheirEdges();
        nodeOrderOfErrors();
        everyValueOfNode();
        sixteenBridges();
        roomsAtTheirEdges();
        delaysAndPacesAtTheirEdges();
        turnsAtTheirEdges();
        countsWhatCame();
        bridgesBetweenTheSameNodes();
        bridgeOrderOfErrors();
        mendOrderOfErrors();
        mendOfWhatIsOnTheBridge();
        mendChangesNothingElse();
        routeIsABridgeOrNone();
        routeOrderOfErrors();
        routeReturnsThePreviousOne();
        routeIsForEachOtherNode();
        Checks.finish();
    }

    /** "There are 8 nodes." */
    private static void eightNodes() {
        StubbornBridges x = new StubbornBridges();
        for (int node = 0; node < 8; node++) {
            for (int to = 0; to < 8; to++) {
                Checks.due("nodes " + node + ", " + to, x.route(node, to, -6), node == to ? -1 : -6);
                Checks.due("nodes: a route to itself", node == to ? x.ofNode(node, 10 + to) : -6, -6);
            }
            Checks.due("nodes: node " + node, x.node(node, 0, 60, 8000), 0);
        }
        for (int node : new int[] {-1, 8, MIN, MAX, -6}) {
            Checks.due("nodes: no node " + node, x.node(node, 0, 60, 8000), -1);
            Checks.due("nodes: nothing of " + node, x.ofNode(node, 0), -1);
            Checks.due("nodes: no route of " + node, x.route(node, 0, -6), -1);
            Checks.due("nodes: no route to " + node, x.route(0, node, -6), -1);
        }
    }

    /** "A node has a way to treat what overlaps (0 to 2; 0 at first)": by 0 the bytes that are there stay. */
    private static void wayAtFirst() {
        StubbornBridges x = new StubbornBridges();
        x.send(0, 1, 100, 0, 41);
        x.forge(0, 0, 1, 0, 5);
        x.forge(0, 0, 1, 0, 6);
        x.ticks(1);
        Checks.due("way at first", x.byteAt(0, 0), Checks.byteOf(5, 0));
        Checks.due("way at first, not refused", x.ofParcel(0, 5), 0);
    }

    /** "a time-out (1 to 500 ticks; 60)" */
    private static void timeOutsAtTheirEdges() {
        for (int timeOut : new int[] {1, 2, 60, 499, 500}) {
            StubbornBridges x = new StubbornBridges();
            if (timeOut != 60) x.node(1, 0, timeOut, 8000);
            x.send(0, 1, 100, 0, 41);
            x.forge(0, 0, 1, 0, 0);
            x.ticks(timeOut);
            Checks.due("time-out " + timeOut + ": one tick before", x.ofParcel(0, 5), 0);
            Checks.due("time-out " + timeOut + ": the byte is there", x.ofParcel(0, 8), 1);
            x.ticks(1);
            Checks.due("time-out " + timeOut + ": then", x.ofParcel(0, 5), 3);
            Checks.due("time-out " + timeOut + ": when", x.ofParcel(0, 11), timeOut);
        }
    }

    /** "and a space (64 to 20000 bytes; 8000)" */
    private static void spacesAtTheirEdges() {
        for (int space : new int[] {64, 65, 3999, 4000, 8000, 19999, 20000}) {
            StubbornBridges x = new StubbornBridges();
            if (space != 8000) Checks.due("space " + space, x.node(1, 0, 60, space), 0);
            int left = space;
            for (int parcel = 0; left > 0; parcel++) {
                x.send(0, 1, 4000, 0, 41);
                for (int at = 0; at < 4000 && left > 0; at += 1000) {
                    int length = Math.min(1000, left);
                    x.forge(parcel, at, length, 0, 0);
                    left -= length;
                }
            }
            x.ticks(1);
            Checks.due("space " + space + ": just full", x.ofNode(1, 3), space);
            Checks.due("space " + space + ": none is evicted", x.count(24), 0);
            int next = x.send(0, 1, 1, 0, 41);
            x.forge(next, 1, 1, 0, 0);
            x.ticks(1);
            Checks.due("space " + space + ": one byte more", x.count(24), 1);
            Checks.due("space " + space + ": the first one", x.ofParcel(0, 5), 4);
        }
    }

    /** "NO_SUCH if there is no such node; BAD_VALUE if another argument is out of range" */
    private static void nodeOrderOfErrors() {
        StubbornBridges x = new StubbornBridges();
        Checks.due("2: all wrong", x.node(8, 3, 0, 63), -1);
        Checks.due("2: a wrong node alone", x.node(8, 0, 60, 8000), -1);
        Checks.due("2: way, time-out, space", x.node(7, 3, 0, 63), -2);
        Checks.due("2: way alone", x.node(7, 3, 60, 8000), -2);
        Checks.due("2: time-out alone", x.node(7, 0, 501, 8000), -2);
        Checks.due("2: space alone", x.node(7, 0, 60, 20001), -2);
        Checks.due("2: nothing was recorded", x.count(8), 0);
        Checks.due("2: nothing was changed", x.ofNode(7, 0) + x.ofNode(7, 1) + x.ofNode(7, 2), 0 + 60 + 8000);
    }

    /** "way: 0 to 2", "timeOut: 1 to 500", "space: 64 to 20000": what lies next to an edge, and the edge. */
    private static void everyValueOfNode() {
        StubbornBridges x = new StubbornBridges();
        for (int way = -2; way <= 4; way++) {
            Checks.due("2: way " + way, x.node(0, way, 60, 8000) == -2 ? 0 : 1, way >= 0 && way <= 2 ? 1 : 0);
        }
        for (int out : new int[] {-1, 0, 1, 2, 499, 500, 501, 502}) {
            Checks.due("2: time-out " + out, x.node(1, 0, out, 8000), out >= 1 && out <= 500 ? 0 : -2);
            if (out >= 1 && out <= 500) Checks.due("2: is told", x.ofNode(1, 1), out);
        }
        for (int space : new int[] {-64, 0, 63, 64, 65, 19999, 20000, 20001}) {
            Checks.due("2: space " + space, x.node(1, 0, 60, space), space >= 64 && space <= 20000 ? 0 : -2);
            if (space >= 64 && space <= 20000) Checks.due("2: is told", x.ofNode(1, 2), space);
        }
    }

    /** "There are up to 16 bridges."; "TOO_MANY if there are 16 bridges" */
    private static void sixteenBridges() {
        StubbornBridges x = new StubbornBridges();
        for (int i = 0; i < 16; i++) {
            Checks.due("3: its number", x.bridge(i % 8, (i + 1) % 8, 16 + i, 1 + i, 1 + i), i);
            Checks.due("3: how many", x.count(1), i + 1);
        }
        int[] before = Checks.everything(x);
        Checks.due("3: the 17th", x.bridge(0, 1, 100, 1, 1), -4);
        Checks.same("3: the 17th changes nothing", Checks.everything(x), before);
        Checks.due("3: there is no bridge 16", x.ofBridge(16, 0), -1);
        Checks.due("3: none to mend", x.mend(16, 100, 0), -1);
        Checks.due("3: none for a route", x.route(0, 1, 16), -1);
        int[] last = {7, 0, 31, 16, 16, 0, 0, 0, 0};
        for (int what = 0; what < 9; what++) Checks.due("3: the last one, " + what, x.ofBridge(15, what), last[what]);
        Checks.due("3: the last one is a route", x.route(7, 0, 15), -6);
        x.send(7, 0, 23, 0, 41);
        x.ticks(1);
        Checks.due("3: and is gone over", x.ofBridge(15, 8), 31);
        x.undo();
        x.undo();
        x.undo();
        x.undo();
        Checks.due("3: 15 are not too many", x.bridge(0, 1, 100, 1, 1), 15);
    }

    /** "it has a room (16 to 1500)"; "To go over a bridge, a slice needs 8 bytes more than its length." */
    private static void roomsAtTheirEdges() {
        int[][] roomSizeSlices = {{16, 8, 1}, {16, 9, 2}, {16, 16, 2}, {16, 17, 3}, {17, 9, 1}, {17, 10, 2}, {23, 15, 1},
            {23, 16, 2}, {24, 16, 1}, {24, 17, 2}, {1499, 1491, 1}, {1499, 1492, 2}, {1500, 1492, 1}, {1500, 1493, 2},
            {1500, 2976, 2}, {1500, 2977, 3}, {1500, 4000, 3}, {16, 1, 1}, {1500, 1, 1}};
        for (int[] row : roomSizeSlices) {
            StubbornBridges x = Checks.pair(row[0], 1, 1000);
            x.send(0, 1, row[1], 0, 41);
            x.ticks(1);
            String call = "room " + row[0] + ", size " + row[1];
            Checks.due(call + ": slices", x.count(3), row[2]);
            Checks.due(call + ": cut", x.count(5), row[2] > 1 ? 1 : 0);
            Checks.due(call + ": bytes", x.ofBridge(0, 8), row[1] + 8 * row[2]);
            x.ticks(4);
            Checks.due(call + ": whole", x.ofParcel(0, 5), 1);
        }
    }

    /** "a delay (1 to 50 ticks), a pace (1 to 1000 bytes a tick)" */
    private static void delaysAndPacesAtTheirEdges() {
        int[][] delayPaceSizeTick = {{1, 1000, 1, 1}, {1, 1000, 991, 1}, {1, 1000, 992, 2}, {1, 999, 991, 2}, {50, 1000, 1, 50},
            {50, 1, 1, 59}, {1, 1, 1492, 1501}, {50, 1, 1492, 1550}, {1, 9, 1, 2}, {1, 10, 1, 1}, {2, 10, 2, 3}};
        for (int[] row : delayPaceSizeTick) {
            StubbornBridges x = Checks.pair(1500, row[0], row[1]);
            x.send(0, 1, row[2], 0, 41);
            x.ticks(1);
            Checks.due("delay " + row[0] + ", pace " + row[1] + ", size " + row[2], x.count(9), row[3]);
            Checks.due("delay " + row[0] + ", pace " + row[1] + ": as foreseen", x.time(0, 1, row[2]), row[3]);
        }
    }

    /** "a number of turns (0 to 99; 0 at first)"; "if the bridge has turns, and the count is a multiple of them" */
    private static void turnsAtTheirEdges() {
        for (int turns : new int[] {-1, 0, 1, 2, 98, 99}) {
            StubbornBridges x = Checks.pair(16, 1, 1000);
            Checks.due("turns at first", x.ofBridge(0, 5), 0);
            if (turns >= 0) x.mend(0, 16, turns);
            x.send(0, 1, 8, 0, 41);
            for (int i = 1; i < 100; i++) x.resend(0);
            x.ticks(1);
            Checks.due("turns " + turns + ": lost", x.ofBridge(0, 7), turns > 0 ? 100 / turns : 0);
            Checks.due("turns " + turns + ": reason 4", x.count(14), turns > 0 ? 100 / turns : 0);
            Checks.due("turns " + turns + ": count", x.ofBridge(0, 6), 100);
            Checks.due("turns " + turns + ": under way", x.count(3), turns > 0 ? 100 - 100 / turns : 100);
            Checks.due("turns " + turns + ": bytes", x.ofBridge(0, 8), 16 * (turns > 0 ? 100 - 100 / turns : 100));
        }
        StubbornBridges x = Checks.pair(16, 1, 1000);
        x.mend(0, 16, 99);
        x.send(0, 1, 8, 0, 41);
        for (int i = 1; i < 98; i++) x.resend(0);
        x.ticks(1);
        Checks.due("turns 99: the 98th is not lost", x.ofBridge(0, 7), 0);
        x.send(0, 1, 8, 0, 41);
        x.ticks(1);
        Checks.due("turns 99: the 99th is", x.ofParcel(1, 13), 1);
    }

    /** "and counts the slices that came to it": those that it drops, too, but none that it may not bear. */
    private static void countsWhatCame() {
        StubbornBridges x = Checks.pair(16, 1, 1000);
        x.mend(0, 16, 1);
        x.send(0, 1, 17, 0, 41);
        x.send(0, 1, 17, 0, 40);
        x.ticks(1);
        Checks.due("count: three pieces", x.ofBridge(0, 6), 3);
        Checks.due("count: all lost", x.ofBridge(0, 7), 3);
        Checks.due("count: one was not to be cut", x.count(13), 1);
        Checks.due("count: nothing went over it", x.ofBridge(0, 8), 0);
    }

    /** "A bridge leads from a node to another one": as many as there are places, there and back. */
    private static void bridgesBetweenTheSameNodes() {
        StubbornBridges x = new StubbornBridges();
        Checks.due("3: there", x.bridge(0, 1, 100, 1, 1), 0);
        Checks.due("3: there again", x.bridge(0, 1, 100, 1, 1), 1);
        Checks.due("3: back", x.bridge(1, 0, 100, 1, 1), 2);
        for (int node = 0; node < 8; node++) Checks.due("3: to itself", x.bridge(node, node, 100, 1, 1), -1);
        Checks.due("3: three", x.count(1), 3);
    }

    /** "NO_SUCH if there is no such node, or both are the same; BAD_VALUE ..; TOO_MANY if there are 16 bridges" */
    private static void bridgeOrderOfErrors() {
        StubbornBridges x = new StubbornBridges();
        for (int i = 0; i < 2; i++) {
            Checks.due("3: no from, and all else wrong", x.bridge(-1, 1, 15, 0, 0), -1);
            Checks.due("3: no to, and all else wrong", x.bridge(1, 8, 1501, 51, 1001), -1);
            Checks.due("3: both the same, and all else wrong", x.bridge(1, 1, 15, 0, 0), -1);
            Checks.due("3: the same, but no node", x.bridge(8, 8, 15, 0, 0), -1);
            Checks.due("3: room", x.bridge(0, 1, 15, 1, 1), -2);
            Checks.due("3: delay", x.bridge(0, 1, 16, 0, 1), -2);
            Checks.due("3: pace", x.bridge(0, 1, 16, 1, 0), -2);
            Checks.due("3: room, above", x.bridge(0, 1, 1501, 50, 1000), -2);
            Checks.due("3: delay, above", x.bridge(0, 1, 1500, 51, 1000), -2);
            Checks.due("3: pace, above", x.bridge(0, 1, 1500, 50, 1001), -2);
            for (int k = x.count(1); k < 16; k++) x.bridge(0, 1, 16, 1, 1);
        }
        Checks.due("3: at last too many", x.bridge(0, 1, 16, 1, 1), -4);
    }

    /** "NO_SUCH if there is no such bridge; BAD_VALUE if room or turns is out of range" */
    private static void mendOrderOfErrors() {
        StubbornBridges x = Checks.pair(100, 1, 1);
        for (int bridge : new int[] {-1, 1, 15, 16, -6, MIN, MAX}) Checks.due("4: no bridge", x.mend(bridge, 15, 100), -1);
        Checks.due("4: both", x.mend(0, 15, 100), -2);
        Checks.due("4: room below", x.mend(0, 15, 0), -2);
        Checks.due("4: room above", x.mend(0, 1501, 99), -2);
        Checks.due("4: turns below", x.mend(0, 16, -1), -2);
        Checks.due("4: turns above", x.mend(0, 1500, 100), -2);
        Checks.due("4: nothing was mended", x.mend(0, 16, 99), 100);
        Checks.due("4: the least room", x.mend(0, 1500, 0), 16);
        Checks.due("4: the greatest room", x.mend(0, 17, 1), 1500);
    }

    /** "Changes the room and the turns of a bridge": what went onto it before comes over it as it is. */
    private static void mendOfWhatIsOnTheBridge() {
        StubbornBridges x = Checks.pair(100, 3, 1000);
        x.send(0, 1, 92, 0, 41);
        x.ticks(1);
        x.mend(0, 16, 1);
        x.ticks(3);
        Checks.due("4: it comes", x.ofParcel(0, 5), 1);
        Checks.due("4: it is not cut", x.count(5), 0);
        Checks.due("4: it is not lost", x.ofBridge(0, 7), 0);
        Checks.due("4: the count is 0", x.ofBridge(0, 6), 0);
    }

    /** "its count becomes 0", and nothing else becomes another. */
    private static void mendChangesNothingElse() {
        StubbornBridges x = new StubbornBridges();
        x.bridge(3, 4, 50, 7, 8);
        x.bridge(4, 3, 60, 9, 10);
        x.route(3, 4, 0);
        x.route(4, 3, 1);
        x.mend(0, 50, 2);
        for (int i = 0; i < 5; i++) {
            x.send(3, 4, 10, 0, 41);
            x.send(4, 3, 10, 0, 41);
        }
        x.ticks(1);
        x.mend(0, 51, 3);
        int[] mended = {3, 4, 51, 7, 8, 3, 0, 2, 54}, other = {4, 3, 60, 9, 10, 0, 5, 0, 90};
        for (int what = 0; what < 9; what++) {
            Checks.due("4: mended, " + what, x.ofBridge(0, what), mended[what]);
            Checks.due("4: the other, " + what, x.ofBridge(1, what), other[what]);
        }
        Checks.due("4: reason 4 stays", x.count(14), 2);
    }

    /** "bridge: a bridge, or NONE" */
    private static void routeIsABridgeOrNone() {
        StubbornBridges x = new StubbornBridges();
        for (int bridge = -8; bridge <= 17; bridge++) {
            Checks.due("5: without bridges, " + bridge, x.route(0, 1, bridge), bridge == -6 ? -6 : -1);
        }
        for (int i = 0; i < 16; i++) x.bridge(0, 1, 16, 1, 1);
        int previous = -6;
        for (int bridge = 0; bridge < 16; bridge++) {
            Checks.due("5: to bridge " + bridge, x.route(0, 1, bridge), previous);
            previous = bridge;
        }
        for (int bridge : new int[] {-1, -2, -3, -4, -5, -7, 16, 17, MIN, MAX}) {
            Checks.due("5: neither, " + bridge, x.route(0, 1, bridge), -1);
        }
        Checks.due("5: none", x.route(0, 1, -6), 15);
        Checks.due("5: none is told", x.ofNode(0, 11), -6);
    }

    /** "NO_SUCH if there is no such node, or both are the same, or bridge is neither ..; NOT_POSSIBLE .." */
    private static void routeOrderOfErrors() {
        StubbornBridges x = new StubbornBridges();
        x.bridge(0, 1, 100, 1, 1);
        x.bridge(1, 2, 100, 1, 1);
        Checks.due("5: no node, a bridge from another one", x.route(8, 1, 1), -1);
        Checks.due("5: no to, a bridge from another one", x.route(0, 8, 1), -1);
        Checks.due("5: both the same, a bridge from another one", x.route(0, 0, 1), -1);
        Checks.due("5: both the same, and none", x.route(3, 3, -6), -1);
        Checks.due("5: no node, and none", x.route(-1, 3, -6), -1);
        Checks.due("5: no bridge", x.route(0, 1, 2), -1);
        Checks.due("5: a bridge from another node", x.route(0, 1, 1), -5);
        Checks.due("5: a bridge to this node", x.route(2, 1, 1), -5);
        Checks.due("5: none from another node", x.route(2, 1, -6), -6);
        Checks.due("5: only this was recorded", x.count(8), 3);
    }

    /** "Returns the previous one, NONE if there was none" */
    private static void routeReturnsThePreviousOne() {
        StubbornBridges x = new StubbornBridges();
        x.bridge(0, 1, 100, 1, 1);
        x.bridge(0, 2, 100, 1, 1);
        int[] bridges = {-6, 0, 0, 1, -6, -6, 1}, want = {-6, -6, 0, 0, 1, -6, -6};
        for (int i = 0; i < bridges.length; i++) {
            Checks.due("5: the previous one, " + i, x.route(0, 1, bridges[i]), want[i]);
            Checks.due("5: the one now, " + i, x.ofNode(0, 11), bridges[i]);
        }
    }

    /** "A node has for each other node a route, which is a bridge that leads from it, or none (at first)." */
    private static void routeIsForEachOtherNode() {
        StubbornBridges x = new StubbornBridges();
        for (int to = 1; to < 8; to++) x.bridge(0, to, 100, 1, 1);
        for (int to = 1; to < 8; to++) Checks.due("5: at first", x.route(0, to, to % 7), -6);
        for (int to = 0; to < 8; to++) Checks.due("5: each", x.ofNode(0, 10 + to), to == 0 ? -6 : to % 7);
        for (int node = 1; node < 8; node++) {
            for (int to = 0; to < 8; to++) Checks.due("5: of other nodes", x.ofNode(node, 10 + to), -6);
        }
    }
}

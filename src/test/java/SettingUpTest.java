/** Promises 1 to 5: a new object, node, bridge, mend, route. */
public final class SettingUpTest {
    private static final int MIN = Integer.MIN_VALUE, MAX = Integer.MAX_VALUE;

    public static void main(String[] args) {
        newObject();
        nodeAnswers();
        nodeSpaceKeepsWhatIsThere();
        nodeTimeOutCountsAtOnce();
        bridgeAnswers();
        mendAnswers();
        routeAnswers();
        Checks.finish();
    }

    private static void newObject() {
        StubbornBridges x = new StubbornBridges();
        for (int what = 0; what <= 8; what++) Checks.due("1: count " + what, x.count(what), 0);
        Checks.due("1: count 9", x.count(9), -6);
        for (int what = 11; what <= 17; what++) Checks.due("1: count " + what, x.count(what), 0);
        for (int what = 20; what <= 25; what++) Checks.due("1: count " + what, x.count(what), 0);
        for (int node = 0; node < 8; node++) {
            Checks.due("1: way", x.ofNode(node, 0), 0);
            Checks.due("1: time-out", x.ofNode(node, 1), 60);
            Checks.due("1: space", x.ofNode(node, 2), 8000);
            Checks.due("1: bytes", x.ofNode(node, 3), 0);
            Checks.due("1: parcels", x.ofNode(node, 4), 0);
            for (int to = 0; to < 8; to++) Checks.due("1: route", x.ofNode(node, 10 + to), -6);
        }
        Checks.due("1: no bridge", x.ofBridge(0, 0), -1);
        Checks.due("1: no parcel", x.ofParcel(0, 0), -1);
        Checks.due("1: fault", x.fault(), 0);
        Checks.due("1: undo", x.undo(), -5);
        Checks.due("1: restore 0", x.restore(0), -5);
        Checks.due("1: restore 1", x.restore(1), -5);
        StubbornBridges y = new StubbornBridges();
        y.ticks(5);
        Checks.due("1: objects are apart", x.count(0), 0);
    }

    private static void nodeAnswers() {
        StubbornBridges x = new StubbornBridges();
        Checks.due("2: first", x.node(3, 2, 1, 64), 0);
        Checks.due("2: way", x.ofNode(3, 0), 2);
        Checks.due("2: time-out", x.ofNode(3, 1), 1);
        Checks.due("2: space", x.ofNode(3, 2), 64);
        Checks.due("2: most", x.node(3, 1, 500, 20000), 2);
        Checks.due("2: previous", x.node(3, 0, 60, 8000), 1);
        Checks.due("2: other node", x.ofNode(2, 0), 0);
        Checks.due("2: last node", x.node(7, 1, 60, 8000), 0);
        Checks.due("2: history", x.count(8), 4);
        for (int node : new int[] {-1, 8, MIN, MAX}) Checks.due("2: no node first", x.node(node, 3, 0, 0), -1);
        for (int way : new int[] {-1, 3, MIN, MAX}) Checks.due("2: bad way", x.node(3, way, 60, 8000), -2);
        for (int out : new int[] {0, 501, MIN, MAX}) Checks.due("2: bad time-out", x.node(3, 0, out, 8000), -2);
        for (int space : new int[] {63, 20001, MIN, MAX}) Checks.due("2: bad space", x.node(3, 0, 60, space), -2);
        Checks.due("2: errors record nothing", x.count(8), 4);
        Checks.due("2: errors change nothing", x.ofNode(3, 2), 8000);
    }

    private static void nodeSpaceKeepsWhatIsThere() {
        StubbornBridges x = new StubbornBridges();
        x.send(0, 1, 200, 0, 41);
        x.forge(0, 0, 100, 0, 0);
        x.ticks(1);
        Checks.due("2: there", x.ofNode(1, 3), 100);
        x.node(1, 0, 60, 64);
        x.ticks(1);
        Checks.due("2: stays", x.ofNode(1, 3), 100);
        Checks.due("2: no state of its own", x.ofParcel(0, 5), 0);
        x.forge(0, 0, 1, 0, 0);
        x.ticks(1);
        Checks.due("2: next put looks at the space", x.ofParcel(0, 5), 4);
    }

    private static void nodeTimeOutCountsAtOnce() {
        StubbornBridges x = new StubbornBridges();
        x.send(0, 1, 200, 0, 41);
        x.forge(0, 0, 100, 0, 0);
        x.ticks(10);
        Checks.due("2: not timed out", x.ofParcel(0, 5), 0);
        x.node(1, 0, 3, 8000);
        x.ticks(1);
        Checks.due("2: timed out", x.ofParcel(0, 5), 3);
        Checks.due("2: when", x.ofParcel(0, 11), 10);
    }

    private static void bridgeAnswers() {
        StubbornBridges x = new StubbornBridges();
        Checks.due("3: least", x.bridge(0, 7, 16, 1, 1), 0);
        Checks.due("3: most", x.bridge(7, 0, 1500, 50, 1000), 1);
        int[] want = {7, 0, 1500, 50, 1000, 0, 0, 0, 0};
        for (int what = 0; what < want.length; what++) Checks.due("3: number " + what, x.ofBridge(1, what), want[what]);
        for (int node : new int[] {-1, 8, MIN, MAX}) {
            Checks.due("3: no from", x.bridge(node, 1, 0, 0, 0), -1);
            Checks.due("3: no to", x.bridge(1, node, 0, 0, 0), -1);
        }
        Checks.due("3: same", x.bridge(4, 4, 0, 0, 0), -1);
        for (int room : new int[] {15, 1501, MIN, MAX}) Checks.due("3: bad room", x.bridge(0, 1, room, 1, 1), -2);
        for (int delay : new int[] {0, 51, MIN, MAX}) Checks.due("3: bad delay", x.bridge(0, 1, 16, delay, 1), -2);
        for (int pace : new int[] {0, 1001, MIN, MAX}) Checks.due("3: bad pace", x.bridge(0, 1, 16, 1, pace), -2);
        Checks.due("3: errors add nothing", x.count(1), 2);
        Checks.due("3: errors record nothing", x.count(8), 2);
        for (int i = 2; i < 16; i++) Checks.due("3: same ends again", x.bridge(0, 7, 100, 1, 1), i);
        Checks.due("3: too many", x.bridge(0, 7, 100, 1, 1), -4);
        Checks.due("3: value before too many", x.bridge(0, 7, 15, 1, 1), -2);
        Checks.due("3: node before too many", x.bridge(0, 0, 100, 1, 1), -1);
        Checks.due("3: 16 bridges", x.count(1), 16);
        x.undo();
        Checks.due("3: place again", x.bridge(1, 2, 100, 1, 1), 15);
    }

    private static void mendAnswers() {
        StubbornBridges x = new StubbornBridges();
        x.bridge(0, 1, 100, 1, 1000);
        x.route(0, 1, 0);
        Checks.due("4: previous", x.mend(0, 1500, 2), 100);
        Checks.due("4: room", x.ofBridge(0, 2), 1500);
        Checks.due("4: turns", x.ofBridge(0, 5), 2);
        for (int i = 0; i < 3; i++) x.send(0, 1, 92, i, 41);
        x.ticks(2);
        Checks.due("4: count", x.ofBridge(0, 6), 3);
        Checks.due("4: lost", x.ofBridge(0, 7), 1);
        Checks.due("4: carried", x.ofBridge(0, 8), 200);
        Checks.due("4: the second one", x.ofParcel(1, 13), 1);
        Checks.due("4: the others", x.count(21), 2);
        Checks.due("4: again", x.mend(0, 16, 99), 1500);
        Checks.due("4: count is 0", x.ofBridge(0, 6), 0);
        Checks.due("4: lost stays", x.ofBridge(0, 7), 1);
        Checks.due("4: carried stays", x.ofBridge(0, 8), 200);
        Checks.due("4: no turns", x.mend(0, 100, 0), 16);
        Checks.due("4: history", x.count(8), 6);
        for (int bridge : new int[] {-1, 1, 16, MIN, MAX}) Checks.due("4: no bridge", x.mend(bridge, 15, 100), -1);
        for (int room : new int[] {15, 1501, MIN, MAX}) Checks.due("4: bad room", x.mend(0, room, 0), -2);
        for (int turns : new int[] {-1, 100, MIN, MAX}) Checks.due("4: bad turns", x.mend(0, 100, turns), -2);
        Checks.due("4: NONE is no bridge", x.mend(-6, 100, 0), -1);
        Checks.due("4: room stays", x.ofBridge(0, 2), 100);
        mendCountsTurnsAnew();
    }

    private static void mendCountsTurnsAnew() {
        StubbornBridges x = new StubbornBridges();
        x.bridge(0, 1, 100, 1, 1000);
        x.route(0, 1, 0);
        x.mend(0, 100, 3);
        x.send(0, 1, 10, 0, 41);
        x.send(0, 1, 10, 0, 41);
        x.ticks(1);
        x.mend(0, 100, 3);
        x.send(0, 1, 10, 0, 41);
        x.ticks(1);
        Checks.due("4: third is not lost", x.ofBridge(0, 7), 0);
        x.mend(0, 100, 1);
        x.send(0, 1, 10, 0, 41);
        x.ticks(1);
        Checks.due("4: every one is lost", x.ofBridge(0, 7), 1);
    }

    private static void routeAnswers() {
        StubbornBridges x = new StubbornBridges();
        x.bridge(0, 1, 100, 1, 1);
        x.bridge(0, 2, 100, 1, 1);
        x.bridge(1, 2, 100, 1, 1);
        Checks.due("5: none before", x.route(0, 7, 0), -6);
        Checks.due("5: NONE is recorded", x.count(8), 4);
        Checks.due("5: previous 0", x.route(0, 7, 1), 0);
        Checks.due("5: told", x.ofNode(0, 17), 1);
        Checks.due("5: same again", x.route(0, 7, 1), 1);
        Checks.due("5: none", x.route(0, 7, -6), 1);
        Checks.due("5: none told", x.ofNode(0, 17), -6);
        Checks.due("5: others", x.ofNode(0, 16), -6);
        Checks.due("5: history is full", x.count(8), 6);
        for (int node : new int[] {-1, 8, MIN, MAX}) {
            Checks.due("5: no node", x.route(node, 1, 0), -1);
            Checks.due("5: no to", x.route(0, node, 0), -1);
        }
        Checks.due("5: same", x.route(0, 0, 0), -1);
        for (int bridge : new int[] {-1, -2, -5, -7, 3, 16, MIN, MAX}) {
            Checks.due("5: no bridge", x.route(0, 7, bridge), -1);
        }
        Checks.due("5: from another node", x.route(0, 2, 2), -5);
        Checks.due("5: to another node", x.route(1, 0, 0), -5);
        Checks.due("5: errors change nothing", x.ofNode(0, 12), -6);
        Checks.due("5: NONE at a node without bridges", x.route(5, 6, -6), -6);
    }
}

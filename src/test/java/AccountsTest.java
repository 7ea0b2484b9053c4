/** Promises 10 to 14: ofNode, ofBridge, ofParcel, byteAt, count. */
public final class AccountsTest {
    private static final int MIN = Integer.MIN_VALUE, MAX = Integer.MAX_VALUE;

    public static void main(String[] args) {
        ofNodeAnswers();
        ofBridgeAnswers();
        ofParcelAnswers();
        byteAtAnswers();
        countAnswers();
        allBytesWithoutALength();
        Checks.finish();
    }

    private static void ofNodeAnswers() {
        StubbornBridges x = new StubbornBridges();
        x.node(2, 1, 33, 444);
        x.bridge(2, 5, 100, 1, 1);
        x.bridge(2, 6, 100, 1, 1);
        x.route(2, 0, 0);
        x.route(2, 7, 1);
        int[] routes = {0, -6, -6, -6, -6, -6, -6, 1};
        Checks.due("10: way", x.ofNode(2, 0), 1);
        Checks.due("10: time-out", x.ofNode(2, 1), 33);
        Checks.due("10: space", x.ofNode(2, 2), 444);
        for (int to = 0; to < 8; to++) Checks.due("10: route " + to, x.ofNode(2, 10 + to), routes[to]);
        x.send(0, 2, 50, 0, 41);
        x.send(1, 2, 50, 0, 41);
        x.send(1, 3, 50, 0, 41);
        x.forge(0, 0, 10, 0, 0);
        x.forge(0, 5, 10, 0, 0);
        x.forge(1, 7, 1, 0, 0);
        x.forge(2, 7, 1, 0, 0);
        Checks.due("10: nothing yet", x.ofNode(2, 3), 0);
        x.ticks(1);
        Checks.due("10: bytes", x.ofNode(2, 3), 16);
        Checks.due("10: parcels", x.ofNode(2, 4), 2);
        Checks.due("10: bytes elsewhere", x.ofNode(3, 3), 1);
        Checks.due("10: none from where it was sent", x.ofNode(1, 4), 0);
        for (int node : new int[] {-1, 8, MIN, MAX}) Checks.due("10: no node", x.ofNode(node, 5), -1);
        for (int what : new int[] {-1, 5, 9, 18, MIN, MAX}) Checks.due("10: what", x.ofNode(2, what), -2);
    }

    private static void ofBridgeAnswers() {
        StubbornBridges x = new StubbornBridges();
        x.bridge(3, 4, 77, 6, 55);
        x.route(3, 4, 0);
        x.mend(0, 77, 2);
        x.send(3, 4, 60, 0, 41);
        x.send(3, 4, 61, 0, 41);
        x.send(3, 4, 62, 0, 41);
        x.ticks(1);
        int[] want = {3, 4, 77, 6, 55, 2, 3, 1, 60 + 62 + 16};
        for (int what = 0; what < want.length; what++) Checks.due("11: " + what, x.ofBridge(0, what), want[what]);
        x.mend(0, 78, 2);
        Checks.due("11: count after mend", x.ofBridge(0, 6), 0);
        Checks.due("11: dropped since it was made", x.ofBridge(0, 7), 1);
        for (int bridge : new int[] {-1, 1, MIN, MAX}) Checks.due("11: no bridge", x.ofBridge(bridge, 9), -1);
        for (int what : new int[] {-1, 9, MIN, MAX}) Checks.due("11: what", x.ofBridge(0, what), -2);
    }

    private static void ofParcelAnswers() {
        StubbornBridges x = new StubbornBridges();
        x.bridge(0, 1, 24, 2, 1000);
        x.route(0, 1, 0);
        x.send(0, 1, 40, 3, 21);
        x.resend(0);
        due(x, new int[] {0, 1, 40, 3, 1, 0, 2, 2, 0, -6, 0, -6, sum(3, 40), 0});
        x.ticks(1);
        due(x, new int[] {0, 1, 40, 3, 1, 0, 2, 6, 0, -6, 0, -6, sum(3, 40), 0});
        x.forge(0, 8, 4, 0, 3);
        x.forge(0, 38, 2, 1, 3);
        x.forge(0, 4000 - 1, 1, 0, 3);
        x.ticks(1);
        due(x, new int[] {0, 1, 40, 3, 1, 0, 2, 6, 6, 40, 0, -6, sum(3, 40), 1});
        x.forge(0, 0, 8, 0, 3);
        x.ticks(1);
        due(x, new int[] {0, 1, 40, 3, 1, 1, 2, 0, 0, -6, 0, 2, sum(3, 40), 1 + 4});
        x.send(1, 0, 7, 255, 40);
        Checks.due("12: not to be cut", x.ofParcel(1, 4), 0);
        Checks.due("12: sum", x.ofParcel(1, 12), sum(255, 7));
        for (int parcel : new int[] {-1, 2, MIN, MAX}) Checks.due("12: no parcel", x.ofParcel(parcel, 14), -1);
        for (int what : new int[] {-1, 14, MIN, MAX}) Checks.due("12: what", x.ofParcel(0, what), -2);
        firstMissing();
    }

    private static void due(StubbornBridges x, int[] want) {
        for (int what = 0; what < want.length; what++) {
            Checks.due("12: tick " + x.count(0) + ", " + what, x.ofParcel(0, what), want[what]);
        }
    }

    private static int sum(int seed, int size) {
        int sum = 0;
        for (int i = 0; i < size; i++) sum += (seed * 31 + i * 7 + i / 256) % 256;
        return sum % 65521;
    }

    private static void firstMissing() {
        StubbornBridges x = new StubbornBridges();
        x.send(0, 1, 100, 0, 41);
        x.forge(0, 1, 5, 0, 0);
        x.ticks(1);
        Checks.due("12: the byte 0", x.ofParcel(0, 10), 0);
        x.forge(0, 0, 1, 0, 0);
        x.ticks(1);
        Checks.due("12: the byte 6", x.ofParcel(0, 10), 6);
        x.forge(0, 50, 50, 1, 0);
        x.ticks(1);
        Checks.due("12: still", x.ofParcel(0, 10), 6);
        Checks.due("12: length", x.ofParcel(0, 9), 100);
    }

    private static void byteAtAnswers() {
        StubbornBridges x = new StubbornBridges();
        x.send(0, 1, 100, 0, 41);
        x.forge(0, 2600, 1400, 0, 77);
        Checks.due("13: not yet", x.byteAt(0, 2600), -6);
        x.ticks(1);
        for (int at = 0; at < 4000; at++) {
            int want = at < 2600 ? -6 : (77 * 31 + at * 7 + at / 256) % 256;
            Checks.due("13: byte " + at, x.byteAt(0, at), want);
        }
        for (int parcel : new int[] {-1, 1, MIN, MAX}) Checks.due("13: no parcel", x.byteAt(parcel, -1), -1);
        for (int at : new int[] {-1, 4000, MIN, MAX}) Checks.due("13: at", x.byteAt(0, at), -2);
        x.ticks(60);
        Checks.due("13: gone", x.byteAt(0, 3000), -6);
        Checks.due("13: the place is looked at first", x.byteAt(0, 4000), -2);
    }

    private static void countAnswers() {
        StubbornBridges x = new StubbornBridges();
        x.bridge(0, 1, 24, 2, 1000);
        x.route(0, 1, 0);
        x.route(0, 2, 0);
        x.node(1, 2, 60, 64);
        x.mend(0, 24, 7);
        x.put('r');
        Checks.due("14: pad", x.count(7), 1);
        x.send(0, 1, 40, 0, 41);
        x.send(0, 1, 40, 0, 40);
        x.send(0, 2, 8, 0, 2);
        x.send(0, 2, 8, 0, 4);
        x.send(2, 0, 8, 0, 4);
        x.send(0, 1, 300, 0, 41);
        x.ticks(1);
        // Bridge 0: three pieces, two small ones, 19 pieces; the 7th, 14th and 21st of 24 are lost.
        int[] first = {1, 1, 6, 21, 6 + 3 + 19, 2, 0, 1, 6, 2};
        for (int what = 0; what < first.length; what++) Checks.due("14: first " + what, x.count(what), first[what]);
        int[] reasons = {0, 1, 1, 3, 0, 0, 0};
        for (int i = 0; i < 7; i++) Checks.due("14: first reason " + (i + 1), x.count(11 + i), reasons[i]);
        x.forge(0, 3990, 11, 0, 0);
        Checks.due("14: the forged one is the next", x.count(9), 1);
        x.ticks(1);
        Checks.due("14: misfit", x.count(16), 1);
        Checks.due("14: the pieces are the next", x.count(9), 2);
        x.ticks(1);
        Checks.due("14: none under way", x.count(9), -6);
        // The first is whole; of the last one 16 pieces come, the fifth of which makes it more than 64.
        Checks.due("14: put", x.count(6), 3 + 5);
        Checks.due("14: late", x.count(17), 11);
        Checks.due("14: whole", x.count(21), 1);
        Checks.due("14: evicted", x.count(24), 1);
        Checks.due("14: on their way", x.count(20), 4);
        Checks.due("14: no hops", x.count(11), 1);
        Checks.due("14: no route", x.count(12), 2);
        int sum = x.count(3) + x.count(5) + x.count(6);
        for (int what = 11; what <= 17; what++) sum += x.count(what);
        Checks.due("14: the account of slices", sum, x.count(4));
        int parcels = 0;
        for (int what = 20; what <= 25; what++) parcels += x.count(what);
        Checks.due("14: the account of parcels", parcels, x.count(2));
        for (int what : new int[] {-1, 10, 18, 19, 26, MIN, MAX}) Checks.due("14: what", x.count(what), -2);
        statesAndReasons();
    }

    private static void statesAndReasons() {
        StubbornBridges x = new StubbornBridges();
        x.node(1, 2, 2, 100);
        for (int i = 0; i < 6; i++) x.send(2, 1, 10, 0, 41);
        x.ticks(1);
        Checks.due("14: no routes", x.count(12), 6);
        x.forge(0, 0, 10, 1, 0);
        x.forge(1, 0, 10, 1, 1);
        x.forge(2, 0, 101, 0, 0);
        x.forge(3, 0, 1, 0, 0);
        x.forge(3, 0, 1, 0, 0);
        x.forge(3, 0, 1, 0, 0);
        x.forge(4, 0, 1, 0, 0);
        x.ticks(5);
        int[] states = {1, 1, 1, 1, 1, 1};
        for (int state = 0; state < 6; state++) Checks.due("14: state " + state, x.count(20 + state), states[state]);
        Checks.due("14: timed out", x.ofParcel(4, 5), 3);
        Checks.due("14: timed out when", x.ofParcel(4, 11), 3);
        Checks.due("14: put", x.count(6), 6);
        Checks.due("14: late", x.count(17), 1);
        Checks.due("14: still on its way", x.ofParcel(5, 5), 0);
    }

    private static void allBytesWithoutALength() {
        StubbornBridges x = new StubbornBridges();
        x.send(0, 1, 4000, 0, 41);
        x.forge(0, 0, 1500, 0, 0);
        x.forge(0, 1500, 1500, 0, 0);
        x.forge(0, 3000, 1000, 0, 0);
        x.ticks(1);
        Checks.due("12: on its way", x.ofParcel(0, 5), 0);
        Checks.due("12: all there", x.ofParcel(0, 8), 4000);
        Checks.due("12: no length", x.ofParcel(0, 9), -6);
        Checks.due("20: nothing is there behind it", x.gap(0, 1), -6);
        x.forge(0, 3999, 1, 1, 0);
        x.ticks(1);
        Checks.due("12: whole", x.ofParcel(0, 5), 1);
    }
}

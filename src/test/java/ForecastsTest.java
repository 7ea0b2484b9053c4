/** Promises 15 to 20: leastRoom, slices, time, stateIn, doneIn, gap. */
public final class ForecastsTest {
    private static final int MIN = Integer.MIN_VALUE, MAX = Integer.MAX_VALUE;

    public static void main(String[] args) {
        wrongInputs();
        leastRooms();
        slicesAndTimes();
        aLongWay();
        statesAhead();
        doneAhead();
        nothingChanges();
        gaps();
        Checks.finish();
    }

    private static void wrongInputs() {
        StubbornBridges x = new StubbornBridges();
        for (int node : new int[] {-1, 8, MIN, MAX}) {
            Checks.due("15: no from", x.leastRoom(node, 0), -1);
            Checks.due("15: no to", x.leastRoom(0, node), -1);
            Checks.due("16: no from", x.slices(node, 0, 0), -1);
            Checks.due("16: no to", x.slices(0, node, 0), -1);
            Checks.due("17: no from", x.time(node, 0, 0), -1);
            Checks.due("17: no to", x.time(0, node, 0), -1);
        }
        Checks.due("15: same", x.leastRoom(2, 2), -1);
        Checks.due("16: same", x.slices(2, 2, 0), -1);
        Checks.due("17: same", x.time(2, 2, 0), -1);
        for (int size : new int[] {0, 4001, MIN, MAX}) {
            Checks.due("16: size before NONE", x.slices(0, 1, size), -2);
            Checks.due("17: size before NONE", x.time(0, 1, size), -2);
        }
        Checks.due("15: no route", x.leastRoom(0, 1), -6);
        Checks.due("16: no route", x.slices(0, 1, 1), -6);
        Checks.due("17: no route", x.time(0, 1, 4000), -6);
        for (int parcel : new int[] {-1, 0, MIN, MAX}) {
            Checks.due("18: no parcel", x.stateIn(parcel, 0), -1);
            Checks.due("19: no parcel", x.doneIn(parcel), -1);
            Checks.due("20: no parcel", x.gap(parcel, 2), -1);
        }
        x.send(0, 1, 1, 0, 41);
        for (int ticks : new int[] {0, 501, MIN, MAX}) Checks.due("18: ticks", x.stateIn(0, ticks), -2);
        for (int what : new int[] {-1, 2, MIN, MAX}) Checks.due("20: what before NONE", x.gap(0, what), -2);
        Checks.due("20: nothing is there", x.gap(0, 0), -6);
        Checks.due("20: nothing is there", x.gap(0, 1), -6);
    }

    private static void leastRooms() {
        StubbornBridges x = new StubbornBridges();
        x.bridge(0, 1, 1500, 1, 1);
        x.bridge(1, 2, 16, 1, 1);
        x.bridge(2, 3, 700, 1, 1);
        x.bridge(3, 1, 20, 1, 1);
        x.route(0, 1, 0);
        Checks.due("15: one bridge", x.leastRoom(0, 1), 1500);
        x.route(0, 3, 0);
        x.route(1, 3, 1);
        Checks.due("15: ends on the way", x.leastRoom(0, 3), -6);
        x.route(2, 3, 2);
        Checks.due("15: in the middle", x.leastRoom(0, 3), 16);
        Checks.due("15: from the middle", x.leastRoom(2, 3), 700);
        x.route(2, 0, 2);
        x.route(3, 0, 3);
        x.route(1, 0, 1);
        Checks.due("15: round and round", x.leastRoom(2, 0), -6);
        Checks.due("16: round and round", x.slices(2, 0, 5), -6);
        Checks.due("17: round and round", x.time(2, 0, 5), -6);
        x.mend(1, 1000, 1);
        Checks.due("15: mended", x.leastRoom(0, 3), 700);
    }

    private static void slicesAndTimes() {
        StubbornBridges x = new StubbornBridges();
        x.bridge(0, 1, 100, 2, 50);
        x.bridge(1, 2, 40, 3, 20);
        x.bridge(2, 3, 16, 1, 7);
        for (int node = 0; node < 3; node++) x.route(node, 3, node);
        x.route(0, 1, 0);
        Checks.due("16: fits", x.slices(0, 1, 92), 1);
        Checks.due("16: does not fit", x.slices(0, 1, 93), 2);
        Checks.due("16: 88 and 88", x.slices(0, 1, 176), 2);
        Checks.due("16: 88, 88 and 1", x.slices(0, 1, 177), 3);
        Checks.due("17: 2 + 100 / 50", x.time(0, 1, 92), 4);
        Checks.due("17: 2 + 96 / 50", x.time(0, 1, 93), 3);
        Checks.due("17: one byte", x.time(0, 1, 1), 2);
        // 250: 88, 88, 74; then 32, 32, 24, 32, 32, 24, 32, 32, 10; then 4, 4, 3, 4, 4, 3, 4, 4, 2 of them
        Checks.due("16: cut again", x.slices(0, 3, 250), 32);
        // 2 + 96 / 50, 3 + 40 / 20, 1 + 16 / 7
        Checks.due("17: the last one", x.time(0, 3, 250), 3 + 5 + 3);
        x.mend(0, 100, 1);
        Checks.due("16: none is dropped", x.slices(0, 3, 250), 32);
        Checks.due("17: none is dropped", x.time(0, 3, 250), 11);
        Checks.due("16: more than 300", x.slices(2, 3, 4000), 500);
        x.bridge(3, 4, 23, 1, 7);
        x.route(3, 4, 3);
        Checks.due("16: room 23 lets 15 go", x.slices(3, 4, 15), 1);
        Checks.due("16: and cuts 16 in two", x.slices(3, 4, 16), 2);
        theRestMayBeTheSlowest();
    }

    /** A rest of 92 bytes is cut by the second bridge otherwise than a piece: the longest need not be the slowest. */
    private static void theRestMayBeTheSlowest() {
        StubbornBridges x = new StubbornBridges();
        x.bridge(0, 1, 64, 1, 1000);
        x.bridge(1, 2, 63, 1, 1);
        x.route(0, 2, 0);
        x.route(1, 2, 1);
        // 56 is cut into 48 and 8, 55 goes on as it is: 1 + (1 + 56) and 1 + (1 + 63)
        Checks.due("17: 56", x.time(0, 2, 56), 1 + 1 + 56);
        Checks.due("17: 55", x.time(0, 2, 55), 1 + 1 + 63);
        Checks.due("17: 56 and 55", x.time(0, 2, 111), 1 + 1 + 63);
        Checks.due("17: 56 and 1", x.time(0, 2, 57), 1 + 1 + 56);
        Checks.due("16: 56 and 55", x.slices(0, 2, 111), 3);
    }

    private static void aLongWay() {
        StubbornBridges x = new StubbornBridges();
        int[] rooms = {1500, 700, 300, 150, 70, 40, 16};
        for (int i = 0; i < 7; i++) {
            x.bridge(i, i + 1, rooms[i], 50, 1);
            x.route(i, 7, i);
        }
        Checks.due("15: seven bridges", x.leastRoom(0, 7), 16);
        Checks.due("16: seven bridges", x.slices(0, 7, 4000), 500);
        Checks.due("17: seven bridges", x.time(0, 7, 100), 7 * 50 + 108 * 4 + 64 + 40 + 16);
        x.send(0, 7, 100, 0, 41);
        Checks.due("19: one more than the time", x.doneIn(0), x.time(0, 7, 100) + 1);
    }

    private static void statesAhead() {
        StubbornBridges x = new StubbornBridges();
        x.bridge(0, 1, 100, 4, 1000);
        x.route(0, 1, 0);
        x.send(0, 1, 20, 0, 41);
        Checks.due("18: on its way", x.stateIn(0, 4), 0);
        Checks.due("18: whole", x.stateIn(0, 5), 1);
        Checks.due("18: whole later", x.stateIn(0, 500), 1);
        x.node(1, 0, 3, 64);
        x.send(0, 1, 200, 0, 41);
        x.forge(1, 0, 10, 0, 0);
        Checks.due("18: before the time-out", x.stateIn(1, 3), 0);
        Checks.due("18: timed out", x.stateIn(1, 4), 3);
        x.ticks(4);
        Checks.due("18: as foreseen", x.ofParcel(1, 5), 3);
        Checks.due("18: now and then", x.stateIn(1, 1), 3);
        Checks.due("18: the first one", x.ofParcel(0, 5), 0);
        x.ticks(1);
        Checks.due("18: as foreseen", x.ofParcel(0, 5), 1);
    }

    private static void doneAhead() {
        StubbornBridges x = new StubbornBridges();
        x.send(0, 1, 20, 0, 41);
        Checks.due("19: never", x.doneIn(0), -6);
        x.node(1, 0, 500, 64);
        x.forge(0, 0, 1, 0, 0);
        Checks.due("19: by the time-out", x.doneIn(0), 501);
        x.ticks(1);
        Checks.due("19: one tick later", x.doneIn(0), 500);
        x.forge(0, 0, 20, 1, 0);
        Checks.due("19: in the present tick", x.doneIn(0), 1);
        x.ticks(1);
        Checks.due("19: now", x.doneIn(0), 0);
        within1000();
    }

    private static void within1000() {
        StubbornBridges x = new StubbornBridges();
        x.bridge(0, 1, 1500, 50, 1);
        x.bridge(1, 0, 1500, 50, 2);
        x.bridge(0, 2, 1500, 1, 1);
        x.route(0, 2, 2);
        // 1 + 499 ticks on the bridge, then 500 of the time-out: after 1001 ticks
        x.node(2, 0, 500, 8000);
        x.send(0, 2, 491, 0, 40);
        x.forge(0, 490, 1, 1, 0);
        Checks.due("19: it is whole before", x.doneIn(0), 501);
        x.send(0, 2, 990, 0, 40);
        Checks.due("19: 1 + 998 ticks", x.doneIn(1), 1000);
        x.send(0, 2, 991, 0, 40);
        Checks.due("19: 1 + 999 ticks", x.doneIn(2), -6);
        x.ticks(1);
        Checks.due("19: one tick later", x.doneIn(2), 1000);
    }

    private static void nothingChanges() {
        StubbornBridges x = new StubbornBridges();
        x.bridge(0, 1, 30, 2, 10);
        x.route(0, 1, 0);
        x.mend(0, 30, 5);
        x.send(0, 1, 200, 0, 41);
        x.ticks(2);
        int[] before = Checks.all(x);
        x.doneIn(0);
        x.stateIn(0, 100);
        x.leastRoom(0, 1);
        x.slices(0, 1, 4000);
        x.time(0, 1, 4000);
        x.gap(0, 0);
        int[] after = Checks.all(x);
        for (int i = 0; i < before.length; i++) Checks.due("18: nothing changes, " + i, after[i], before[i]);
    }

    private static void gaps() {
        StubbornBridges x = new StubbornBridges();
        x.send(0, 1, 100, 0, 41);
        x.forge(0, 10, 5, 0, 0);
        x.ticks(1);
        Checks.due("20: from the beginning", x.gap(0, 0), 0);
        Checks.due("20: to the first one", x.gap(0, 1), 10);
        x.forge(0, 0, 10, 0, 0);
        x.ticks(1);
        Checks.due("20: behind all", x.gap(0, 0), 15);
        Checks.due("20: the end is not known", x.gap(0, 1), -6);
        x.forge(0, 20, 1, 0, 0);
        x.forge(0, 30, 1, 0, 0);
        x.ticks(1);
        Checks.due("20: the first stretch", x.gap(0, 0), 15);
        Checks.due("20: to the next one that is", x.gap(0, 1), 5);
        x.forge(0, 15, 15, 0, 0);
        x.forge(0, 30, 10, 0, 0);
        x.ticks(1);
        Checks.due("20: behind all again", x.gap(0, 0), 40);
        x.forge(0, 49, 1, 1, 0);
        x.ticks(1);
        Checks.due("20: up to the last slice", x.gap(0, 1), 9);
        x.forge(0, 40, 9, 0, 0);
        x.ticks(1);
        Checks.due("20: broken", x.ofParcel(0, 5), 2);
        Checks.due("20: not on its way", x.gap(0, 0), -6);
        Checks.due("20: not on its way", x.gap(0, 1), -6);
        Checks.due("20: what is looked at first", x.gap(0, 2), -2);
    }
}

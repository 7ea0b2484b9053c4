/** The edges of the steps 4 and 5 of "Putting together": the space, and what is whole; above each test stands its sentence. */
public final class EdgesOfPuttingTogetherTest {
    public static void main(String[] args) {
        notMoreThanTheSpace();
        theEarliestFirstSlice();
        theLowestNumberOfSeveral();
        untilTheyAreNotMore();
        allFortyAtOnce();
        theParcelOfTheSlice();
        completeButEvicted();
        smallerSpaceLater();
        overlapsAreCountedOnce();
        whatIsDoneTakesNoSpace();
        otherNodesHaveTheirOwnSpace();
        wholeOfOneByte();
        wholeWithoutAMark();
        brokenByItsSum();
        brokenByItsLength();
        sumsLeftOver();
        sumsThatDifferByTheDivisor();
        goneWhenGivenUp();
        Checks.finish();
    }

    /** A node 1 with a space and so many parcels that go to it. */
    private static StubbornBridges parcels(int many, int space) {
        StubbornBridges x = new StubbornBridges();
        x.node(1, 0, 60, space);
        for (int i = 0; i < many; i++) x.send(0, 1, 4000, 0, 41);
        x.ticks(1);
        return x;
    }

    private static void put(StubbornBridges x, int parcel, int offset, int length) {
        x.forge(parcel, offset, length, 0, 0);
        x.ticks(1);
    }

    private static void states(String what, StubbornBridges x, int... want) {
        for (int i = 0; i < want.length; i++) Checks.due(what + ": parcel " + i, x.ofParcel(i, 5), want[i]);
    }

    /** "If the bytes that are there of all parcels that are not whole at the node are more than its space then" */
    private static void notMoreThanTheSpace() {
        StubbornBridges x = parcels(3, 64);
        put(x, 0, 0, 30);
        put(x, 1, 0, 34);
        Checks.due("space: 64", x.ofNode(1, 3), 64);
        states("space: just full", x, 0, 0, 0);
        put(x, 2, 0, 1);
        states("space: one more", x, 4, 0, 0);
        Checks.due("space: 35", x.ofNode(1, 3), 35);
        put(x, 2, 1, 29);
        states("space: just full again", x, 4, 0, 0);
        put(x, 2, 30, 1);
        states("space: one more again", x, 4, 4, 0);
    }

    /** "the parcel whose first slice was put there the earliest": the number and later slices tell nothing. */
    private static void theEarliestFirstSlice() {
        StubbornBridges x = parcels(3, 64);
        put(x, 2, 0, 20);
        put(x, 0, 0, 20);
        put(x, 1, 0, 20);
        put(x, 2, 100, 2);
        put(x, 0, 100, 2);
        states("earliest: full", x, 0, 0, 0);
        put(x, 1, 100, 1);
        states("earliest: the parcel 2", x, 0, 0, 4);
        put(x, 1, 200, 22);
        states("earliest: 65, so the parcel 0", x, 4, 0, 4);
    }

    /** "(of several the one with the lowest number)": of those whose first slices were put in the same tick. */
    private static void theLowestNumberOfSeveral() {
        StubbornBridges x = parcels(4, 64);
        x.forge(3, 0, 20, 0, 0);
        x.forge(2, 0, 20, 0, 0);
        x.forge(1, 0, 20, 0, 0);
        x.ticks(1);
        put(x, 0, 0, 5);
        states("several: the lowest number of the earliest ones", x, 0, 4, 0, 0);
        put(x, 0, 5, 20);
        states("several: then the next one", x, 0, 4, 4, 0);
        StubbornBridges y = parcels(2, 64);
        y.forge(1, 0, 40, 0, 0);
        y.forge(0, 0, 40, 0, 0);
        y.ticks(1);
        states("several: the one of the slice has the lowest number", y, 4, 0);
    }

    /** "and so on, until they are not more" */
    private static void untilTheyAreNotMore() {
        StubbornBridges x = parcels(6, 100);
        for (int i = 0; i < 5; i++) put(x, i, 0, 20);
        put(x, 5, 0, 60);
        states("so on: three are evicted", x, 4, 4, 4, 0, 0, 0);
        Checks.due("so on: just full", x.ofNode(1, 3), 100);
        put(x, 5, 60, 40);
        states("so on: two more", x, 4, 4, 4, 4, 4, 0);
        for (int i = 3; i <= 4; i++) Checks.due("so on: when", x.ofParcel(i, 11), x.count(0) - 1);
        put(x, 5, 100, 1);
        states("so on: and itself", x, 4, 4, 4, 4, 4, 4);
        Checks.due("so on: nothing is left", x.ofNode(1, 3) + x.ofNode(1, 4), 0);
    }

    /** As many as there can be: 39 parcels of one byte each and one that is too big alone. */
    private static void allFortyAtOnce() {
        StubbornBridges x = parcels(40, 64);
        for (int i = 0; i < 39; i++) x.forge(i, 7, 1, 0, 0);
        x.ticks(1);
        Checks.due("forty: one byte each", x.ofNode(1, 3), 39);
        put(x, 39, 0, 65);
        Checks.due("forty: all are evicted", x.count(24), 40);
        Checks.due("forty: nothing is left", x.ofNode(1, 3), 0);
        StubbornBridges y = parcels(40, 64);
        for (int i = 0; i < 39; i++) y.forge(i, 7, 1, 0, 0);
        y.ticks(1);
        put(y, 39, 0, 64);
        Checks.due("forty: all but the last one", y.count(24), 39);
        Checks.due("forty: which stays", y.ofParcel(39, 5), 0);
    }

    /** "(This can be the parcel of the slice" */
    private static void theParcelOfTheSlice() {
        StubbornBridges x = parcels(2, 64);
        put(x, 1, 0, 40);
        put(x, 0, 0, 20);
        put(x, 1, 40, 5);
        states("itself: it was the earliest", x, 0, 4);
        Checks.due("itself: the slice was put", x.count(6), 3);
        StubbornBridges y = parcels(1, 64);
        put(y, 0, 0, 65);
        states("itself: alone", y, 4);
    }

    /** "also one that would be complete by it.)" */
    private static void completeButEvicted() {
        StubbornBridges x = new StubbornBridges();
        x.node(1, 0, 60, 64);
        x.send(0, 1, 64, 0, 41);
        x.send(0, 1, 65, 0, 41);
        x.ticks(1);
        x.forge(0, 0, 64, 1, 0);
        x.ticks(1);
        Checks.due("complete: 64 are not more", x.ofParcel(0, 5), 1);
        x.forge(1, 0, 65, 1, 0);
        x.ticks(1);
        Checks.due("complete: 65 are more", x.ofParcel(1, 5), 4);
        Checks.due("complete: no length", x.ofParcel(1, 9), -6);
        // It is the earliest one, so it goes, though it would be complete, and the other one stays.
        StubbornBridges y = new StubbornBridges();
        y.node(1, 0, 60, 64);
        y.send(0, 1, 40, 0, 41);
        y.send(0, 1, 40, 0, 41);
        y.ticks(1);
        y.forge(1, 0, 30, 0, 0);
        y.ticks(1);
        y.forge(0, 0, 30, 0, 0);
        y.ticks(1);
        y.forge(1, 30, 10, 1, 0);
        y.ticks(1);
        states("complete: evicted", y, 0, 4);
    }

    /** "space: 64 to 20000 (what is there already stays)", until the next slice is put. */
    private static void smallerSpaceLater() {
        StubbornBridges x = parcels(3, 300);
        put(x, 0, 0, 100);
        put(x, 1, 0, 100);
        x.node(1, 0, 60, 64);
        x.ticks(10);
        states("smaller: they stay", x, 0, 0, 0);
        Checks.due("smaller: 200", x.ofNode(1, 3), 200);
        x.forge(2, 3999, 2, 0, 0);
        x.ticks(1);
        states("smaller: what is dropped is not put", x, 0, 0, 0);
        put(x, 2, 0, 10);
        states("smaller: two go", x, 4, 4, 0);
        x.node(1, 0, 60, 65);
        put(x, 2, 10, 55);
        states("greater: 65 are not more", x, 4, 4, 0);
    }

    private static void overlapsAreCountedOnce() {
        for (int way = 0; way <= 1; way++) {
            StubbornBridges x = parcels(1, 64);
            x.node(1, way, 60, 64);
            for (int i = 0; i < 5; i++) put(x, 0, 0, 60);
            put(x, 0, 4, 60);
            states("once: 64", x, 0);
            Checks.due("once: there", x.ofParcel(0, 8), 64);
            put(x, 0, 5, 60);
            states("once: 65", x, 4);
        }
    }

    private static void whatIsDoneTakesNoSpace() {
        StubbornBridges x = parcels(5, 100);
        x.forge(0, 0, 60, 1, 0);
        x.ticks(1);
        Checks.due("done: broken", x.ofParcel(0, 5), 2);
        put(x, 1, 0, 60);
        states("done: none is evicted", x, 2, 0);
        x.ticks(60);
        states("done: timed out", x, 2, 3);
        put(x, 2, 0, 100);
        put(x, 3, 0, 1);
        states("done: evicted", x, 2, 3, 4, 0);
        put(x, 4, 0, 99);
        states("done: it is full", x, 2, 3, 4, 0, 0);
        Checks.due("done: 100", x.ofNode(1, 3), 100);
    }

    private static void otherNodesHaveTheirOwnSpace() {
        StubbornBridges x = new StubbornBridges();
        for (int node = 0; node < 8; node++) {
            x.node(node, 0, 60, 64 + node);
            x.send((node + 1) % 8, node, 1000, 0, 41);
            x.send((node + 1) % 8, node, 1000, 0, 41);
        }
        for (int node = 0; node < 8; node++) x.forge(2 * node, 0, 64 + node, 0, 0);
        x.ticks(1);
        Checks.due("nodes: none is evicted", x.count(24), 0);
        for (int node = 0; node < 8; node++) Checks.due("nodes: full", x.ofNode(node, 3), 64 + node);
        for (int node = 0; node < 8; node++) {
            put(x, 2 * node + 1, 0, 1);
            Checks.due("nodes: evicted at " + node, x.ofParcel(2 * node, 5), 4);
            Checks.due("nodes: and at no other one", x.count(24), node + 1);
        }
    }

    /** "5. If the length of the whole is known, and all bytes are there" */
    private static void wholeOfOneByte() {
        for (int seed = 0; seed <= 255; seed += 5) {
            StubbornBridges x = new StubbornBridges();
            x.send(0, 1, 1, seed, 41);
            x.forge(0, 0, 1, 1, seed);
            x.ticks(1);
            Checks.due("one byte: whole", x.ofParcel(0, 5), 1);
            Checks.due("one byte: its sum", x.ofParcel(0, 12), seed * 31 % 256);
        }
        StubbornBridges x = new StubbornBridges();
        x.send(0, 1, 1, 0, 41);
        x.forge(0, 0, 1, 0, 0);
        x.ticks(1);
        Checks.due("one byte: the length is not known", x.ofParcel(0, 5), 0);
        x.forge(0, 0, 1, 1, 0);
        x.ticks(1);
        Checks.due("one byte: known by one that was there", x.ofParcel(0, 5), 1);
    }

    /** All 4000 bytes do not make it whole if no slice was the last one. */
    private static void wholeWithoutAMark() {
        StubbornBridges x = new StubbornBridges();
        x.send(0, 1, 4000, 0, 41);
        Checks.forgeAllBytes(x, 0);
        x.ticks(1);
        Checks.due("no mark: on its way", x.ofParcel(0, 5), 0);
        Checks.due("no mark: there", x.ofParcel(0, 8), 4000);
        x.forge(0, 2999, 1000, 1, 0);
        x.ticks(1);
        Checks.due("no mark: a byte lies at its end", x.count(16), 1);
        x.forge(0, 3999, 1, 1, 77);
        x.ticks(1);
        Checks.due("no mark: whole, by the bytes that stayed", x.ofParcel(0, 5), 1);
    }

    /** "WHOLE if the sum of the bytes .. is that of the parcel as it was sent and its length is the size; otherwise BROKEN" */
    private static void brokenByItsSum() {
        StubbornBridges x = new StubbornBridges();
        for (int i = 0; i < 3; i++) x.send(0, 1, 30, 9, 41);
        // 9 * 31 = 279 = 256 + 23, so the byte 0 is 23.
        int less = seedOf(22, 0), more = seedOf(24, 0);
        x.forge(0, 0, 1, 0, less);
        x.forge(0, 1, 29, 1, 9);
        x.forge(1, 0, 1, 0, more);
        x.forge(1, 1, 29, 1, 9);
        // One more and one less: the byte 1 is 30.
        x.forge(2, 0, 1, 0, more);
        x.forge(2, 1, 1, 0, seedOf(29, 1));
        x.forge(2, 2, 28, 1, 9);
        x.ticks(1);
        states("sum: one less, one more, both", x, 2, 2, 1);
    }

    /** The seed by which the byte at an offset has a value. */
    private static int seedOf(int value, int at) {
        for (int seed = 0; seed < 256; seed++) {
            if (Checks.byteOf(seed, at) == value) return seed;
        }
        return -1;
    }

    private static void brokenByItsLength() {
        StubbornBridges x = new StubbornBridges();
        for (int i = 0; i < 3; i++) x.send(0, 1, 30, 9, 41);
        int zero = seedOf(0, 30);
        x.forge(0, 0, 30, 0, 9);
        x.forge(0, 30, 1, 1, zero);
        x.forge(1, 0, 30, 1, 9);
        // One shorter, and the sum in the first byte: 23 and what the byte 29 had.
        int last = Checks.byteOf(9, 29);
        x.forge(2, 0, 1, 0, seedOf((23 + last) % 256, 0));
        x.forge(2, 1, 28, 1, 9);
        x.ticks(1);
        Checks.due("length: the byte 29 is small enough", last + 23 < 256 ? 1 : 0, 1);
        states("length: longer by a 0, the same, shorter", x, 2, 1, 2);
    }

    /** "left over by 65521" */
    private static void sumsLeftOver() {
        int found = 0;
        for (int want : new int[] {65520, 65521, 65522}) {
            int seed = 0, size = 0;
            for (int k = 0; k < 256 * 40 && size == 0; k++) {
                if (Checks.plainSum(k % 256, 500 + k / 256) != want) continue;
                seed = k % 256;
                size = 500 + k / 256;
                found++;
            }
            if (size == 0) continue;
            StubbornBridges x = Checks.pair(1500, 1, 1000);
            x.send(0, 1, size, seed, 41);
            Checks.due("sum of " + want, x.ofParcel(0, 12), want % 65521);
            x.ticks(2);
            Checks.due("sum of " + want + ": whole", x.ofParcel(0, 5), 1);
        }
        Checks.due("sums: all three", found, 3);
    }

    /** Two sums that are the same if they are left over by 65521. */
    private static void sumsThatDifferByTheDivisor() {
        for (int off = -1; off <= 1; off++) {
            StubbornBridges x = new StubbornBridges();
            x.send(0, 1, 4000, 0, 41);
            int more = 65521 + off;
            // Slices of 18 bytes that have great values in place of the parcel's, until single bytes do.
            for (int at = 0; at < 3900 && more > 0; at += 18) {
                int seed = -1, best = 0;
                for (int s = 0; s < 256; s++) {
                    int gain = 0;
                    for (int i = at; i < at + 18; i++) gain += Checks.byteOf(s, i) - Checks.byteOf(0, i);
                    if (gain > best && gain <= more) {
                        best = gain;
                        seed = s;
                    }
                }
                if (seed < 0) continue;
                x.forge(0, at, 18, 0, seed);
                more -= best;
            }
            for (int at = 3900; at < 3990 && more > 0; at++) {
                int gain = Math.min(more, 255 - Checks.byteOf(0, at));
                x.forge(0, at, 1, 0, seedOf(Checks.byteOf(0, at) + gain, at));
                more -= gain;
            }
            Checks.due("sums: all of it", more, 0);
            x.forge(0, 0, 1500, 0, 0);
            x.forge(0, 1500, 1500, 0, 0);
            x.forge(0, 3000, 1000, 1, 0);
            x.ticks(1);
            Checks.due("sums: more by 65521 and " + off, x.ofParcel(0, 5), off == 0 ? 1 : 2);
        }
    }

    /** "When a parcel is given up, all that was there of it is gone." "All that was there of it is gone." */
    private static void goneWhenGivenUp() {
        StubbornBridges x = EdgesOfParcelsTest.everyState();
        for (int state = 0; state <= 5; state++) {
            int[] gone = {0, -6, 0};
            for (int what = 8; what <= 10; what++) Checks.due("gone: state " + state, x.ofParcel(state, what), gone[what - 8]);
            for (int at = 0; at < 70; at++) Checks.due("gone: byte " + at, x.byteAt(state, at), -6);
            Checks.due("gone: no gap", x.gap(state, 0), -6);
            Checks.due("gone: no gap", x.gap(state, 1), -6);
        }
        Checks.due("gone: bytes at the node", x.ofNode(1, 3), 0);
        Checks.due("gone: parcels at the node", x.ofNode(1, 4), 0);
    }
}

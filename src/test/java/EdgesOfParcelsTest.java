/** The edges of promises 6 to 9 and of the terms "Parcels, slices"; above each test stands its sentence. */
public final class EdgesOfParcelsTest {
    private static final int MIN = Integer.MIN_VALUE, MAX = Integer.MAX_VALUE;

    public static void main(String[] args) {
        fortyParcels();
        undoneParcelsWereNotSent();
        sizesAndSeeds();
        everyHow();
        hopsAtTheirEdges();
        sendArrivesInThePresentTick();
        sendOrderOfErrors();
        bytesOfAParcel();
        resendCountsUp();
        resendOrderOfErrors();
        resendInEveryState();
        resendMayNotBeCutEither();
        forgeAtItsEdges();
        forgeArrivesWhereTheParcelGoes();
        forgeReturnsHowManyAreUnderWay();
        forgeOrderOfErrors();
        forgeInEveryState();
        threeHundredUnderWay();
        ticksAtTheirEdges();
        ticksOneByOne();
        Checks.finish();
    }

    /** "There are up to 40 parcels (all that were ever sent)." */
    private static void fortyParcels() {
        StubbornBridges x = Checks.pair(1500, 1, 1000);
        for (int i = 0; i < 40; i++) {
            Checks.due("6: its number", x.send(0, 1, 1 + i, i, 41), i);
            if (i % 8 == 7) x.ticks(2);
        }
        Checks.due("6: 40 are whole", x.count(21), 40);
        Checks.due("6: none is on its way, but there were 40", x.send(0, 1, 1, 0, 41), -4);
        for (int i = 0; i < 40; i++) Checks.due("6: size of " + i, x.ofParcel(i, 2), 1 + i);
        Checks.due("6: no parcel 40", x.ofParcel(40, 0), -1);
        Checks.due("6: no parcel 40", x.resend(40), -1);
        Checks.due("6: no parcel 40", x.forge(40, 0, 1, 0, 0), -1);
        Checks.due("6: no parcel 40", x.byteAt(40, 0), -1);
        Checks.due("6: no parcel 40", x.stateIn(40, 1), -1);
        Checks.due("6: no parcel 40", x.doneIn(40), -1);
        Checks.due("6: no parcel 40", x.gap(40, 0), -1);
        Checks.due("6: the parcel 39", x.stateIn(39, 1), 1);
    }

    private static void undoneParcelsWereNotSent() {
        StubbornBridges x = new StubbornBridges();
        for (int i = 0; i < 39; i++) x.send(0, 1, 1, 0, 41);
        for (int i = 0; i < 5; i++) {
            Checks.due("6: the 40th", x.send(2, 3, 5 + i, 0, 41), 39);
            Checks.due("6: the 41st", x.send(2, 3, 1, 0, 41), -4);
            Checks.due("6: its size", x.ofParcel(39, 2), 5 + i);
            x.undo();
            Checks.due("6: it is not", x.ofParcel(39, 2), -1);
        }
    }

    /** "a size (1 to 4000), a seed (0 to 255)" */
    private static void sizesAndSeeds() {
        for (int size : new int[] {MIN, -1, 0, 1, 2, 3999, 4000, 4001, MAX}) {
            for (int seed : new int[] {MIN, -1, 0, 1, 254, 255, 256, MAX}) {
                StubbornBridges x = Checks.pair(1500, 1, 1000);
                boolean good = size >= 1 && size <= 4000 && seed >= 0 && seed <= 255;
                Checks.due("6: size " + size + ", seed " + seed, x.send(0, 1, size, seed, 41), good ? 0 : -2);
                Checks.due("6: sent or not", x.count(2) + x.count(3) + x.count(4), good ? 3 : 0);
                if (!good) continue;
                Checks.due("6: size is told", x.ofParcel(0, 2), size);
                Checks.due("6: seed is told", x.ofParcel(0, 3), seed);
                x.ticks(6);
                Checks.due("6: whole, size " + size + ", seed " + seed, x.ofParcel(0, 5), 1);
            }
        }
    }

    /** "how: 2 * the hops (1 to 20) that its slices may go, plus 1 if it may be cut" */
    private static void everyHow() {
        for (int how = -2; how <= 44; how++) {
            StubbornBridges x = new StubbornBridges();
            boolean good = how >= 2 && how <= 41;
            Checks.due("6: how " + how, x.send(0, 1, 1, 0, how), good ? 0 : -2);
            if (good) Checks.due("6: may it be cut, " + how, x.ofParcel(0, 4), how % 2);
        }
    }

    /** "the hops (1 to 20) that its slices may go"; "hops that it may still go" */
    private static void hopsAtTheirEdges() {
        for (int hops = 1; hops <= 20; hops++) {
            StubbornBridges x = new StubbornBridges();
            x.bridge(0, 1, 100, 1, 1000);
            x.bridge(1, 0, 100, 1, 1000);
            x.route(0, 2, 0);
            x.route(1, 2, 1);
            x.send(0, 2, 1, 0, 2 * hops);
            x.ticks(hops);
            Checks.due("hops " + hops + ": so many bridges", x.ofBridge(0, 6) + x.ofBridge(1, 6), hops);
            Checks.due("hops " + hops + ": not yet dropped", x.count(11), 0);
            x.ticks(1);
            Checks.due("hops " + hops + ": then dropped", x.count(11), 1);
            Checks.due("hops " + hops + ": and no bridge more", x.ofBridge(0, 6) + x.ofBridge(1, 6), hops);
        }
    }

    /** "one slice of all of it, marked as the last one, arrives at the node from which it is sent in the present tick" */
    private static void sendArrivesInThePresentTick() {
        StubbornBridges x = Checks.pair(1500, 1, 1000);
        x.ticks(7);
        x.send(0, 1, 1492, 0, 40);
        Checks.due("6: one slice", x.count(3), 1);
        Checks.due("6: in the present tick", x.count(9), 7);
        x.ticks(1);
        // delay 1, and 1500 bytes at a pace of 1000
        Checks.due("6: it went onto the bridge in this tick", x.count(9), 7 + 1 + 1);
        Checks.due("6: all of it", x.ofBridge(0, 8), 1500);
        x.ticks(2);
        Checks.due("6: its length is known by it", x.ofParcel(0, 5), 1);
    }

    /** "NO_SUCH if there is no such node, or both are the same; BAD_VALUE ..; TOO_MANY if 40 parcels were sent, or 300 .." */
    private static void sendOrderOfErrors() {
        StubbornBridges x = new StubbornBridges();
        for (int i = 0; i < 2; i++) {
            Checks.due("6: no from", x.send(-1, 1, 0, 256, 1), -1);
            Checks.due("6: no to", x.send(0, 8, 4001, -1, 42), -1);
            Checks.due("6: both the same", x.send(7, 7, 0, 256, 42), -1);
            Checks.due("6: size", x.send(0, 1, 0, 0, 2), -2);
            Checks.due("6: seed", x.send(0, 1, 1, 256, 2), -2);
            Checks.due("6: how", x.send(0, 1, 1, 0, 1), -2);
            for (int k = x.count(2); k < 40; k++) x.send(0, 1, 1, 0, 2);
        }
        Checks.due("6: at last too many", x.send(0, 1, 1, 0, 2), -4);
        StubbornBridges y = new StubbornBridges();
        y.send(0, 1, 1, 0, 2);
        for (int i = y.count(3); i < 300; i++) y.resend(0);
        Checks.due("6: 300 under way, no node", y.send(8, 1, 1, 0, 2), -1);
        Checks.due("6: 300 under way, no how", y.send(0, 1, 1, 0, 0), -2);
        Checks.due("6: 300 under way", y.send(0, 1, 1, 0, 2), -4);
        Checks.due("6: one parcel", y.count(2), 1);
    }

    /** "The byte i .. is (s * 31 + i * 7 + i / 256) left over by 256, i being counted from the beginning of the parcel." */
    private static void bytesOfAParcel() {
        StubbornBridges x = Checks.pair(1500, 1, 1000);
        x.mend(0, 1500, 3);
        x.send(0, 1, 4000, 201, 41);
        x.ticks(3);
        int[] at = {0, 1, 36, 37, 255, 256, 257, 511, 512, 1487, 1488, 2975};
        for (int i : at) Checks.due("byte " + i, x.byteAt(0, i), (201 * 31 + i * 7 + i / 256) & 255);
        Checks.due("byte behind the two pieces", x.byteAt(0, 2976), -6);
        // 201 * 31 = 6231 = 24 * 256 + 87; 87 + 24 * 7 = 255; 87 + 25 * 7 = 262 = 256 + 6
        Checks.due("byte 24, the greatest", x.byteAt(0, 24), 255);
        Checks.due("byte 25, left over", x.byteAt(0, 25), 6);
        x.forge(0, 3000, 1000, 0, 0);
        x.ticks(1);
        for (int i = 3000; i < 4000; i += 9) Checks.due("forged byte " + i, x.byteAt(0, i), (i * 7 + i / 256) & 255);
        // 3999 * 7 + 15 = 28008 = 109 * 256 + 104
        Checks.due("the last byte", x.byteAt(0, 3999), 104);
    }

    /** "Returns how often it has been sent"; "It stays the same parcel." */
    private static void resendCountsUp() {
        StubbornBridges x = new StubbornBridges();
        x.send(0, 1, 5, 9, 41);
        x.send(0, 1, 5, 9, 41);
        for (int i = 2; i < 60; i++) {
            Checks.due("7: how often", x.resend(1), i);
            Checks.due("7: is told", x.ofParcel(1, 6), i);
        }
        Checks.due("7: the other one", x.ofParcel(0, 6), 1);
        x.forge(1, 0, 1, 0, 0);
        Checks.due("7: forging is not sending", x.ofParcel(1, 6), 59);
        Checks.due("7: two parcels", x.count(2), 2);
        Checks.due("7: slices", x.count(4), 61);
    }

    /** "NO_SUCH if there is no such parcel; TOO_MANY if 300 slices are under way; NOT_POSSIBLE if it is not ON_ITS_WAY" */
    private static void resendOrderOfErrors() {
        StubbornBridges x = new StubbornBridges();
        for (int parcel : new int[] {-6, -1, 0, 1, 40, MIN, MAX}) Checks.due("7: none was sent", x.resend(parcel), -1);
        x.send(0, 1, 5, 0, 41);
        x.forge(0, 0, 5, 1, 0);
        x.ticks(1);
        x.send(0, 1, 5, 0, 41);
        Checks.due("7: whole", x.resend(0), -5);
        for (int i = x.count(3); i < 299; i++) x.forge(1, 0, 1, 0, 0);
        Checks.due("7: 299 under way, whole", x.resend(0), -5);
        Checks.due("7: 299 under way", x.resend(1), 2);
        Checks.due("7: 300 under way, no parcel", x.resend(2), -1);
        Checks.due("7: 300 under way, whole", x.resend(0), -4);
        Checks.due("7: 300 under way", x.resend(1), -4);
        Checks.due("7: nothing was sent", x.ofParcel(1, 6), 2);
    }

    /** The parcels 0 to 5 in the states 0 to 5, after three ticks; no slice is under way. */
    static StubbornBridges everyState() {
        StubbornBridges x = new StubbornBridges();
        x.node(1, 2, 1, 64);
        for (int i = 0; i < 6; i++) x.send(0, 1, 10, 0, 41);
        x.ticks(1);
        x.forge(4, 0, 65, 0, 0);
        x.forge(1, 0, 10, 1, 0);
        x.forge(2, 0, 9, 1, 0);
        x.forge(3, 0, 5, 0, 0);
        x.forge(5, 0, 5, 0, 0);
        x.forge(5, 4, 5, 0, 0);
        x.ticks(1);
        x.ticks(1);
        return x;
    }

    /** "NOT_POSSIBLE if it is not ON_ITS_WAY" */
    private static void resendInEveryState() {
        StubbornBridges x = everyState();
        for (int state = 0; state <= 5; state++) Checks.due("7: the state " + state, x.ofParcel(state, 5), state);
        for (int state = 1; state <= 5; state++) Checks.due("7: in the state " + state, x.resend(state), -5);
        Checks.due("7: on its way", x.resend(0), 2);
        Checks.due("7: one slice", x.count(3), 1);
    }

    /** "Sends a parcel once more, as send() did." */
    private static void resendMayNotBeCutEither() {
        StubbornBridges x = Checks.pair(16, 1, 1000);
        x.route(0, 1, -6);
        x.send(0, 1, 9, 0, 40);
        x.send(0, 1, 9, 0, 41);
        x.ticks(1);
        x.route(0, 1, 0);
        x.resend(0);
        x.resend(1);
        Checks.due("7: in the present tick", x.count(9), 1);
        x.ticks(2);
        Checks.due("7: may not be cut", x.count(13), 1);
        Checks.due("7: may be cut", x.ofParcel(1, 5), 1);
    }

    /** "offset: 0 to 3999", "length: 1 to 1500", "last: 1 .. otherwise 0", "seed: 0 to 255" */
    private static void forgeAtItsEdges() {
        StubbornBridges x = new StubbornBridges();
        x.send(0, 1, 10, 0, 41);
        int under = 1;
        for (int offset : new int[] {MIN, -1, 0, 1, 3998, 3999, 4000, MAX}) {
            boolean good = offset >= 0 && offset <= 3999;
            Checks.due("8: offset " + offset, x.forge(0, offset, 1, 0, 0), good ? ++under : -2);
        }
        for (int length : new int[] {MIN, -1, 0, 1, 2, 1499, 1500, 1501, MAX}) {
            boolean good = length >= 1 && length <= 1500;
            Checks.due("8: length " + length, x.forge(0, 0, length, 0, 0), good ? ++under : -2);
        }
        for (int last : new int[] {MIN, -1, 0, 1, 2, MAX}) {
            Checks.due("8: last " + last, x.forge(0, 0, 1, last, 0), last == 0 || last == 1 ? ++under : -2);
        }
        for (int seed : new int[] {MIN, -1, 0, 1, 254, 255, 256, MAX}) {
            boolean good = seed >= 0 && seed <= 255;
            Checks.due("8: seed " + seed, x.forge(0, 0, 1, 0, seed), good ? ++under : -2);
        }
        Checks.due("8: made", x.count(4), under);
        Checks.due("8: not sent", x.ofParcel(0, 6), 1);
    }

    /** "which arrives at the node to which the parcel goes in the present tick" */
    private static void forgeArrivesWhereTheParcelGoes() {
        StubbornBridges x = new StubbornBridges();
        x.send(0, 7, 10, 0, 41);
        x.ticks(5);
        x.forge(0, 0, 1, 0, 255);
        Checks.due("8: in the present tick", x.count(9), 5);
        Checks.due("8: it is not there yet", x.ofNode(7, 3), 0);
        Checks.due("8: it was not put yet", x.count(6), 0);
        x.ticks(1);
        Checks.due("8: it is there", x.ofNode(7, 3), 1);
        Checks.due("8: with its seed", x.byteAt(0, 0), 255 * 31 % 256);
        Checks.due("8: at no other node", x.ofNode(0, 3), 0);
        x.forge(0, 1, 1, 1, 0);
        x.ticks(1);
        Checks.due("8: marked as the last one", x.ofParcel(0, 5), 2);
    }

    /** "Returns how many slices are under way then" */
    private static void forgeReturnsHowManyAreUnderWay() {
        StubbornBridges x = Checks.pair(16, 9, 1000);
        x.send(0, 1, 24, 0, 41);
        x.send(2, 3, 24, 0, 41);
        x.ticks(1);
        Checks.due("8: three pieces and this one", x.forge(1, 0, 1, 0, 0), 4);
        Checks.due("8: and this one", x.forge(0, 0, 1, 0, 0), 5);
        x.ticks(1);
        Checks.due("8: three pieces and this one", x.forge(1, 0, 1, 0, 0), 4);
    }

    /** "NO_SUCH if there is no such parcel; BAD_VALUE ..; TOO_MANY if 300 slices are under way" */
    private static void forgeOrderOfErrors() {
        StubbornBridges x = new StubbornBridges();
        Checks.due("8: none was sent", x.forge(0, 0, 1, 0, 0), -1);
        x.send(0, 1, 5, 0, 41);
        for (int i = 0; i < 2; i++) {
            for (int parcel : new int[] {-1, 1, 40, MIN, MAX}) {
                Checks.due("8: no parcel", x.forge(parcel, -1, 0, 2, 256), -1);
                Checks.due("8: no parcel, all else right", x.forge(parcel, 0, 1, 0, 0), -1);
            }
            Checks.due("8: offset", x.forge(0, 4000, 1, 0, 0), -2);
            Checks.due("8: length", x.forge(0, 0, 1501, 0, 0), -2);
            Checks.due("8: last", x.forge(0, 0, 1, 2, 0), -2);
            Checks.due("8: seed", x.forge(0, 0, 1, 0, 256), -2);
            for (int k = x.count(3); k < 300; k++) x.resend(0);
        }
        Checks.due("8: at last too many", x.forge(0, 0, 1, 0, 0), -4);
    }

    /** No sentence keeps forge() from a parcel that is not ON_ITS_WAY any more: its slice is dropped where it arrives. */
    private static void forgeInEveryState() {
        StubbornBridges x = everyState();
        int late = x.count(17);
        for (int state = 1; state <= 5; state++) Checks.due("8: in the state " + state, x.forge(state, 0, 1, 0, 0), state);
        x.ticks(1);
        Checks.due("8: all are dropped", x.count(17), late + 5);
        for (int state = 1; state <= 5; state++) Checks.due("8: the state stays", x.ofParcel(state, 5), state);
    }

    /** "At most 300 slices are under way at a time." */
    private static void threeHundredUnderWay() {
        StubbornBridges x = new StubbornBridges();
        x.send(0, 1, 10, 0, 41);
        for (int i = 2; i <= 299; i++) Checks.due("300: forged", x.forge(0, 0, 1, 0, 0), i);
        Checks.due("300: the 300th is sent", x.send(0, 1, 10, 0, 41), 1);
        Checks.due("300: the 301st is not sent", x.send(0, 1, 10, 0, 41), -4);
        x.undo();
        Checks.due("300: the 300th is sent again", x.resend(0), 2);
        Checks.due("300: the 301st is not sent again", x.resend(0), -4);
        x.undo();
        Checks.due("300: the 300th is forged", x.forge(0, 0, 1, 0, 0), 300);
        Checks.due("300: the 301st is not forged", x.forge(0, 0, 1, 0, 0), -4);
        Checks.due("300: under way", x.count(3), 300);
        Checks.due("300: of the parcel", x.ofParcel(0, 7), 300);
        x.ticks(1);
        Checks.due("300: none then", x.count(3), 0);
        Checks.due("300: there is place again", x.forge(0, 0, 1, 0, 0), 1);
    }

    /** "ticks: 1 to 500"; "Returns the tick then" */
    private static void ticksAtTheirEdges() {
        StubbornBridges x = new StubbornBridges();
        int tick = 0;
        for (int ticks : new int[] {MIN, -500, -1, 0, 1, 2, 499, 500, 501, 502, MAX}) {
            boolean good = ticks >= 1 && ticks <= 500;
            if (good) tick += ticks;
            Checks.due("9: ticks " + ticks, x.ticks(ticks), good ? tick : -2);
            Checks.due("9: the tick", x.count(0), tick);
        }
        Checks.due("9: four changes", x.count(8), 4);
    }

    private static void ticksOneByOne() {
        StubbornBridges one = busy(), all = busy();
        for (int i = 0; i < 120; i++) one.ticks(1);
        all.ticks(120);
        int[] got = Checks.everything(all), want = Checks.everything(one);
        // How many changes can be undone is another number.
        got[8] = want[8];
        Checks.same("9: at once or one by one", got, want);
    }

    private static StubbornBridges busy() {
        StubbornBridges x = new StubbornBridges();
        for (int i = 0; i < 4; i++) {
            x.bridge(i, (i + 1) % 4, 150 - 30 * i, 3, 5 + i);
            for (int to = 0; to < 6; to++) x.route(i, to, i);
            x.mend(i, 150 - 30 * i, 7 + i);
            x.node(i, i % 3, 10 + i, 300);
        }
        for (int i = 0; i < 30; i++) {
            x.send(i % 4, i / 4 % 6, 20 + 7 * i, i, 2 + i);
            if (i % 3 == 0) x.ticks(2);
        }
        return x;
    }
}

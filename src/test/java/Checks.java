/** What the tests share: answers that are due, and texts for the pad. */
final class Checks {
    private static int asked = 0;
    private static int wrong = 0;

    private Checks() {
    }

    static void due(String call, long got, long want) {
        asked++;
        if (got == want) return;
        wrong++;
        System.out.println(call + " answered " + got + ", due is " + want);
    }

    /** Appends a text to the pad, eight characters a call. */
    static void type(StubbornBridges x, String text) {
        for (int at = 0; at < text.length(); at += 8) {
            String part = text.substring(at, Math.min(text.length(), at + 8));
            int had = x.count(7);
            due("put " + part, x.put(number(part)), had + part.length());
        }
    }

    /** The number by which put() takes up to eight characters. */
    static long number(String characters) {
        long number = 0;
        for (char c : characters.toCharArray()) number = number << 8 | c;
        return number;
    }

    /** All that is told of the whole, the bridge 0 and the parcel 0. */
    static int[] all(StubbornBridges x) {
        int[] all = new int[26 + 9 + 14];
        for (int i = 0; i < 26; i++) all[i] = x.count(i);
        for (int i = 0; i < 9; i++) all[26 + i] = x.ofBridge(0, i);
        for (int i = 0; i < 14; i++) all[35 + i] = x.ofParcel(0, i);
        return all;
    }

    /**
     * All that can be asked of an object but the pad's text, its history and its slots: more calls than an object is
     * promised to take, so it is for tests of this program alone.
     */
    static int[] everything(StubbornBridges x) {
        int[] all = new int[26 + 8 * 18 + 16 * 9 + 40 * (14 + 4000 / 50 + 3)];
        int n = 0;
        for (int what = 0; what < 26; what++) all[n++] = x.count(what);
        for (int i = 0; i < 8 * 18; i++) all[n++] = x.ofNode(i / 18, i % 18);
        for (int i = 0; i < 16 * 9; i++) all[n++] = x.ofBridge(i / 9, i % 9);
        for (int parcel = 0; parcel < 40; parcel++) {
            for (int what = 0; what < 14; what++) all[n++] = x.ofParcel(parcel, what);
            for (int i = 0; i < 4000 / 50; i++) all[n++] = x.byteAt(parcel, i < 40 ? i : 50 * i);
            all[n++] = x.doneIn(parcel);
            all[n++] = x.gap(parcel, 0);
            all[n++] = x.gap(parcel, 1);
        }
        return all;
    }

    static void same(String what, int[] got, int[] want) {
        due(what + ", how many numbers", got.length, want.length);
        for (int i = 0; i < Math.min(got.length, want.length); i++) due(what + ", number " + i, got[i], want[i]);
    }

    /** Nodes 0 and 1 with a bridge 0 from 0 to 1 and its route. */
    static StubbornBridges pair(int room, int delay, int pace) {
        StubbornBridges x = new StubbornBridges();
        x.bridge(0, 1, room, delay, pace);
        x.route(0, 1, 0);
        return x;
    }

    /** Forges 4000 bytes of a parcel with the seed 0, none of them marked as the last. */
    static void forgeAllBytes(StubbornBridges x, int parcel) {
        x.forge(parcel, 0, 1500, 0, 0);
        x.forge(parcel, 1500, 1500, 0, 0);
        x.forge(parcel, 3000, 1000, 0, 0);
    }

    static int byteOf(int seed, int at) {
        return (seed * 31 + at * 7 + at / 256) % 256;
    }

    /** Not yet left over by 65521. */
    static int plainSum(int seed, int size) {
        int sum = 0;
        for (int at = 0; at < size; at++) sum += byteOf(seed, at);
        return sum;
    }

    static void finish() {
        System.out.println(asked + " answers, " + wrong + " wrong");
        if (wrong != 0) System.exit(1);
    }
}

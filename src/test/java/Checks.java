/** What the tests share: answers that are due, and texts for the pad. */
final class Checks {
    private static int asked = 0;
    private static int wrong = 0;

    private Checks() {
    }

    static void due(String call, long got, long want) {
        asked++;
        if (got == want) return;
        wrong++;
        System.out.println(call + " answered " + got + ", due is " + want);
    }

    /** Appends a text to the pad, eight characters a call. */
    static void type(StubbornBridges x, String text) {
        for (int at = 0; at < text.length(); at += 8) {
            String part = text.substring(at, Math.min(text.length(), at + 8));
            int had = x.count(7);
            due("put " + part, x.put(number(part)), had + part.length());
        }
    }

    /** The number by which put() takes up to eight characters. */
    static long number(String characters) {
        long number = 0;
        for (char c : characters.toCharArray()) number = number << 8 | c;
        return number;
    }

    /** All that is told of the whole, the bridge 0 and the parcel 0. */
    static int[] all(StubbornBridges x) {
        int[] all = new int[26 + 9 + 14];
        for (int i = 0; i < 26; i++) all[i] = x.count(i);
        for (int i = 0; i < 9; i++) all[26 + i] = x.ofBridge(0, i);
        for (int i = 0; i < 14; i++) all[35 + i] = x.ofParcel(0, i);
        return all;
    }

    static void finish() {
        System.out.println(asked + " answers, " + wrong + " wrong");
        if (wrong != 0) System.exit(1);
    }
}

/** Promises 21 to 24: put, wipe, fault, carryOut. */
public final class TextsTest {
    public static void main(String[] args) {
        putAnswers();
        wipeAnswers();
        faults();
        carryOutAnswers();
        ordersAreCalls();
        ordersThatFail();
        Checks.finish();
    }

    private static void putAnswers() {
        StubbornBridges x = new StubbornBridges();
        Checks.due("21: one", x.put('r'), 1);
        Checks.due("21: two", x.put(Checks.number("12")), 3);
        Checks.due("21: eight", x.put(Checks.number(";s0>1*12")), 11);
        Checks.due("21: in their order", x.fault(), -6);
        Checks.due("21: the first code", x.put(33), 12);
        Checks.due("21: the last code", x.put(126), 13);
        Checks.due("21: eight of the last code", x.put(Checks.number("~~~~~~~~")), 21);
        long[] bad = {0L, 32L, 127L, 255L, 1L, 256L * 'r', 'r' << 16 | 'r', 256L * 32 + 'r', 256L * 127 + 'r',
            -1L, Long.MIN_VALUE, Long.MAX_VALUE, 0x8000000000000000L | 'r', Checks.number("rrrrrrrr") | 0x8000000000000000L,
            Checks.number("rrrrrrr") | 32L << 56, 'r' | 'r' << 8 | (long) 'r' << 40, 1L << 32};
        for (long characters : bad) Checks.due("21: bad " + characters, x.put(characters), -2);
        Checks.due("21: errors append nothing", x.count(7), 21);
        Checks.due("21: no change", x.count(8), 0);
        for (int i = 1; i <= 7; i++) x.put(Checks.number("rrrrrrrr"));
        Checks.due("21: 77", x.count(7), 77);
        Checks.due("21: 81 are too many", x.put(Checks.number("rrrr")), -4);
        Checks.due("21: value before", x.put(32), -2);
        Checks.due("21: 80", x.put(Checks.number("rrr")), 80);
        Checks.due("21: 81", x.put('r'), -4);
        Checks.due("21: still 80", x.count(7), 80);
    }

    private static void wipeAnswers() {
        StubbornBridges x = new StubbornBridges();
        Checks.due("22: empty", x.wipe(), 0);
        Checks.type(x, "t1;t1");
        Checks.due("22: length", x.wipe(), 5);
        Checks.due("22: empty now", x.count(7), 0);
        Checks.due("22: no change", x.count(8), 0);
        Checks.due("22: nothing to read", x.fault(), 0);
        Checks.type(x, "t2");
        Checks.due("22: only the new text", x.fault(), -6);
        Checks.due("22: carried out", x.carryOut(), 1);
        Checks.due("22: two ticks", x.count(0), 2);
    }

    private static void faults() {
        fault("", 0);
        String[] good = {"t0", "t9", "t4999", "r0", "r10", "s0>7*1", "s7>0*4999!", "f0+0*0", "f4999+4999*4999.",
            "s3>3*0", "t1;t2", "r1;f1+2*3.;s1>2*3!;t4;f1+2*3;s1>2*3"};
        for (String text : good) fault(text, -6);
        String[] early = {"t", "r", "s", "s0", "s0>", "s0>1", "s0>1*", "f", "f1", "f1+", "f1+2", "f1+2*", "t1;", "t1;r"};
        for (String text : early) fault(text, text.length());
        fault("x", 0);
        fault("T1", 0);
        fault("!", 0);
        fault(";t1", 0);
        fault("t1;;t1", 3);
        fault("t1t1", 2);
        fault("t01", 2);
        fault("t00", 2);
        fault("t5000", 4);
        fault("t9999", 4);
        fault("t5001", 4);
        fault("t5009", 4);
        fault("t1:", 2);
        fault("t1/", 2);
        fault("t:", 1);
        fault("t/", 1);
        fault("t49990", 5);
        fault("t499x", 4);
        fault("t-1", 1);
        fault("tx", 1);
        fault("t1!", 2);
        fault("t1.", 2);
        fault("r1!", 2);
        fault("s8>0*1", 1);
        fault("s9>0*1", 1);
        fault("s/>0*1", 1);
        fault("s10>0*1", 2);
        fault("s0<1*1", 2);
        fault("s0>8*1", 3);
        fault("s0>11*1", 4);
        fault("s0>1+1", 4);
        fault("s0>1*", 5);
        fault("s0>1*!", 5);
        fault("s0>1*5.", 6);
        fault("s0>1*5!!", 7);
        fault("s0>1*5!1", 7);
        fault("s0>1*05", 6);
        fault("s0>1*5000", 8);
        fault("f1+1+1", 4);
        fault("f1*1", 2);
        fault("f1+1*1!", 6);
        fault("f1+1*1..", 7);
        fault("f5000+1*1", 4);
        fault("f1+5000*1", 6);
        fault("f1+01*1", 4);
        fault("f1+1*5000", 8);
        fault("f01+1*1", 2);
        fault("t1;t2;q", 6);
    }

    private static void fault(String text, int want) {
        StubbornBridges x = new StubbornBridges();
        Checks.type(x, text);
        Checks.due("23: fault of " + text, x.fault(), want);
        Checks.due("23: it stays", x.count(7), text.length());
        Checks.due("23: no change", x.count(8), 0);
        if (want == -6) return;
        Checks.due("24: bad text " + text, x.carryOut(), -3);
        Checks.due("24: the text stays", x.count(7), text.length());
        Checks.due("24: nothing is recorded", x.count(8), 0);
        Checks.due("24: nothing is done", x.count(0) + x.count(2), 0);
    }

    private static void carryOutAnswers() {
        StubbornBridges x = new StubbornBridges();
        Checks.type(x, "t1;t2;s0>1*10;t3");
        Checks.due("24: all", x.carryOut(), 4);
        Checks.due("24: ticks", x.count(0), 6);
        Checks.due("24: the pad is empty", x.count(7), 0);
        Checks.due("24: one change", x.count(8), 1);
        Checks.due("24: an empty pad", x.carryOut(), -3);
        Checks.due("24: undone at once", x.undo(), 0);
        Checks.due("24: ticks undone", x.count(0), 0);
        Checks.due("24: parcels undone", x.count(2), 0);
        Checks.due("24: the pad does not come back", x.count(7), 0);
        Checks.type(x, "r0;t1");
        Checks.due("24: none", x.carryOut(), 0);
        Checks.due("24: also a change", x.count(8), 1);
        Checks.due("24: the pad is empty then, too", x.count(7), 0);
        Checks.type(x, "t1;t1;t1;t1;t1;t1;t1;t1;t1;t1;t1;t1;t1;t1;t1;t1;t1;t1;t1;t1;t1;t1;t1;t1;t1;t1;t1");
        Checks.due("24: as many as can be", x.carryOut(), 27);
        Checks.due("24: 27 ticks", x.count(0), 27);
        Checks.due("24: one change for all", x.count(8), 2);
    }

    private static void ordersAreCalls() {
        StubbornBridges x = new StubbornBridges();
        Checks.type(x, "s3>4*4000;s5>6*1!;r1");
        Checks.due("24: sent", x.carryOut(), 3);
        int[] first = {3, 4, 4000, 0, 1, 0, 1, 1}, second = {5, 6, 1, 0, 0, 0, 2, 2};
        for (int what = 0; what < 8; what++) {
            Checks.due("24: s, " + what, x.ofParcel(0, what), first[what]);
            Checks.due("24: s!, " + what, x.ofParcel(1, what), second[what]);
        }
        Checks.type(x, "f0+10*5;f1+3*4.;t1");
        Checks.due("24: forged", x.carryOut(), 3);
        Checks.due("24: bytes", x.ofParcel(0, 8), 5);
        Checks.due("24: no end", x.ofParcel(0, 9), -6);
        Checks.due("24: the end", x.ofParcel(1, 9), 7);
        // 255 * 31 + 10 * 7 = 7975 = 31 * 256 + 39
        Checks.due("24: the seed 255", x.byteAt(0, 10), 39);
        twentyHops();
    }

    private static void twentyHops() {
        StubbornBridges x = new StubbornBridges();
        x.bridge(0, 1, 100, 1, 1000);
        x.bridge(1, 0, 100, 1, 1000);
        x.route(0, 2, 0);
        x.route(1, 2, 1);
        Checks.type(x, "s0>2*5;t50");
        Checks.due("24: carried out", x.carryOut(), 2);
        Checks.due("24: 20 hops", x.ofBridge(0, 6) + x.ofBridge(1, 6), 20);
        Checks.due("24: then dropped", x.count(11), 1);
    }

    private static void ordersThatFail() {
        String[] bad = {"t0", "t501", "t4999", "s1>1*5", "s0>1*0", "s0>1*4001", "r1", "r4999", "f1+0*1", "f0+4000*1",
            "f0+0*0", "f0+0*1501."};
        for (String order : bad) {
            StubbornBridges x = new StubbornBridges();
            Checks.type(x, "s0>1*5;" + order + ";t1");
            Checks.due("24: up to " + order, x.carryOut(), 1);
            Checks.due("24: nothing behind " + order, x.count(0), 0);
            Checks.due("24: the one before " + order, x.count(2), 1);
            Checks.due("24: nothing of " + order, x.count(3), 1);
            Checks.due("24: no pad after " + order, x.count(7), 0);
        }
        StubbornBridges x = new StubbornBridges();
        x.send(0, 1, 5, 0, 41);
        x.forge(0, 0, 5, 1, 0);
        x.ticks(1);
        Checks.type(x, "t1;r0");
        Checks.due("24: resend of what is whole", x.carryOut(), 1);
        for (int i = 1; i < 40; i++) x.send(0, 1, 5, 0, 41);
        Checks.type(x, "s0>1*1");
        Checks.due("24: too many", x.carryOut(), 0);
        Checks.type(x, "t500;f39+3999*1500.;t1");
        Checks.due("24: the most", x.carryOut(), 3);
    }
}

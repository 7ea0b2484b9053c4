/** The edges of promises 21 to 24 and of the term "Texts"; above each test stands its sentence. */
public final class EdgesOfTextsTest {
    private static final String DIGITS = "0123456789", NODES = "01234567", KINDS = "sfrt";
    /** What stands already, and the characters that may stand next. */
    private static final String[][] MAY_FOLLOW = {
        {"", KINDS}, {"s", NODES}, {"s0", ">"}, {"s7", ">"}, {"s0>", NODES}, {"s0>1", "*"}, {"s0>1*", DIGITS},
        {"s0>1*0", "!;"}, {"s0>1*4", DIGITS + "!;"}, {"s0>1*49", DIGITS + "!;"}, {"s0>1*50", DIGITS + "!;"},
        {"s0>1*99", DIGITS + "!;"}, {"s0>1*499", DIGITS + "!;"}, {"s0>1*500", "!;"}, {"s0>1*999", "!;"},
        {"s0>1*4999", "!;"}, {"s0>1*1000", "!;"}, {"s0>1*5!", ";"}, {"s0>1*5!;", KINDS},
        {"r", DIGITS}, {"r0", ";"}, {"r1", DIGITS + ";"}, {"r39", DIGITS + ";"}, {"r499", DIGITS + ";"}, {"r500", ";"},
        {"r4999", ";"}, {"f", DIGITS}, {"f0", "+"}, {"f1", DIGITS + "+"}, {"f499", DIGITS + "+"}, {"f500", "+"},
        {"f4999", "+"}, {"f1+", DIGITS}, {"f1+0", "*"}, {"f1+2", DIGITS + "*"}, {"f1+500", "*"}, {"f1+4999", "*"},
        {"f1+2*", DIGITS}, {"f1+2*0", ".;"}, {"f1+2*3", DIGITS + ".;"}, {"f1+2*500", ".;"}, {"f1+2*4999", ".;"},
        {"f1+2*3.", ";"}, {"f1+2*3.;", KINDS}, {"t", DIGITS}, {"t0", ";"}, {"t5", DIGITS + ";"}, {"t50", DIGITS + ";"},
        {"t499", DIGITS + ";"}, {"t500", ";"}, {"t999", ";"}, {"t4999", ";"}, {"t1;", KINDS}, {"t1;r", DIGITS},
        {"t1;t2;t3;", KINDS}, {"r1;s", NODES}, {"r1;f", DIGITS}, {"s1>1", "*"}, {"s0>7*1;s7>0*2!;f1+2*3.;t4;r5", DIGITS + ";"}};

    public static void main(String[] args) {
        everyCharacterAtEveryPlace();
        theFirstFaultCounts();
        theTextEndsTooEarly();
        oneToEightCharacters();
        codesAtTheirEdges();
        bitsAboveTheEnd();
        theOrderOfCharacters();
        atMostEightyCharacters();
        valueBeforeTooMany();
        padIsNoChange();
        wipeReturnsTheLength();
        faultOfALongPad();
        badTextStays();
        ordersStopAtTheFirstError();
        everyErrorOfAnOrder();
        theMostOfAnOrder();
        oneChangeForAll();
        noneIsAlsoAChange();
        twentyHopsAndSeeds();
        ordersAsCalls();
        Checks.finish();
    }

    private static int faultOf(String text) {
        StubbornBridges x = new StubbornBridges();
        for (int at = 0; at < text.length(); at += 8) x.put(Checks.number(text.substring(at, Math.min(text.length(), at + 8))));
        return x.fault();
    }

    /** "The fault is the index of the first character that cannot stand at its place" */
    private static void everyCharacterAtEveryPlace() {
        for (String[] row : MAY_FOLLOW) {
            int end = row[0].length();
            for (char c = 33; c <= 126; c++) {
                int fault = faultOf(row[0] + c);
                // A character that may stand there is not the fault; whether the text may end behind it is another question.
                boolean isFault = fault != -6 && fault != end + 1;
                Checks.due("23: " + row[0] + c + " has a fault", isFault ? 1 : 0, row[1].indexOf(c) < 0 ? 1 : 0);
                if (isFault) Checks.due("23: fault of " + row[0] + c, fault, end);
            }
        }
    }

    /** "when the text is read from left to right": what comes behind the fault tells nothing. */
    private static void theFirstFaultCounts() {
        String[] texts = {"t1;x;t01", "t01;x", "s8>9*5000", "t5000;r", "f1+2*3!.", "rr", "s0>1*5.;q", ";", ";;", "!!!!!!!!", "~"};
        int[] want = {3, 2, 1, 4, 6, 1, 6, 0, 0, 0, 0};
        for (int i = 0; i < texts.length; i++) Checks.due("23: fault of " + texts[i], faultOf(texts[i]), want[i]);
    }

    /** "if there is none and the text ends too early (also if it is empty), it is the length of the text" */
    private static void theTextEndsTooEarly() {
        String[] orders = {"s3>4*4999!", "s3>4*10", "r4999", "r0", "f12+345*4999.", "f0+0*0", "t4999", "t0"};
        for (String before : new String[] {"", "t1;", "r1;s0>1*5!;"}) {
            for (String order : orders) {
                for (int end = 0; end <= order.length(); end++) {
                    String text = before + order.substring(0, end);
                    char kind = order.charAt(0);
                    boolean isWhole = end > (kind == 's' ? 5 : kind == 'f' ? order.indexOf('*') + 1 : 1);
                    Checks.due("23: fault of '" + text + "'", faultOf(text), isWhole ? -6 : text.length());
                }
            }
        }
    }

    /** "characters: 1 to 8 characters" */
    private static void oneToEightCharacters() {
        StubbornBridges x = new StubbornBridges();
        Checks.due("21: none", x.put(0L), -2);
        int length = 0;
        for (int many = 1; many <= 8; many++) {
            length += many;
            Checks.due("21: " + many, x.put(Checks.number("abcdefgh".substring(0, many))), length);
            Checks.due("21: length", x.count(7), length);
        }
    }

    /** "BAD_VALUE if .. a code is not 33 to 126": at each of the eight places. */
    private static void codesAtTheirEdges() {
        for (int place = 0; place < 8; place++) {
            for (int many = place + 1; many <= 8; many++) {
                long others = Checks.number("rrrrrrrr".substring(0, many)) & ~(255L << 8 * place);
                for (int code : new int[] {1, 31, 32, 33, 34, 125, 126, 127, 128, 160, 254, 255}) {
                    StubbornBridges x = new StubbornBridges();
                    boolean good = code >= 33 && code <= 126;
                    Checks.due("21: code " + code + " at the place " + place + " of " + many,
                        x.put(others | (long) code << 8 * place), good ? many : -2);
                    Checks.due("21: appended or not", x.count(7), good ? many : 0);
                }
            }
        }
    }

    /** "8 bits that are 0 mean that there are no more characters, and everything above them has to be 0, too" */
    private static void bitsAboveTheEnd() {
        for (int many = 0; many < 8; many++) {
            long characters = many == 0 ? 0L : Checks.number("rrrrrrr".substring(0, many));
            for (int bit = 8 * many + 8; bit < 64; bit++) {
                StubbornBridges x = new StubbornBridges();
                Checks.due("21: bit " + bit + " above " + many, x.put(characters | 1L << bit), -2);
                Checks.due("21: nothing is appended", x.count(7), 0);
            }
        }
    }

    /** "its lowest 8 bits are the last character, the next 8 bits the one before, and so on" */
    private static void theOrderOfCharacters() {
        StubbornBridges x = new StubbornBridges();
        Checks.due("21: t5", x.put('t' * 256 + '5'), 2);
        Checks.due("21: in this order", x.fault(), -6);
        x.wipe();
        Checks.due("21: 5t", x.put('5' * 256 + 't'), 2);
        Checks.due("21: the other way round", x.fault(), 0);
        x.wipe();
        // The last of eight characters is in the lowest 8 bits.
        x.put(Checks.number("t1;t1;t1"));
        Checks.due("21: eight", x.fault(), -6);
        x.put(Checks.number("23"));
        x.put('4');
        Checks.due("21: appended behind them", x.carryOut(), 2);
        x.wipe();
        x.put(Checks.number("t12"));
        x.put(Checks.number("3"));
        Checks.due("21: 123 ticks", x.carryOut(), 1);
        Checks.due("21: 1, 1 and 123", x.count(0), 2 + 123);
    }

    /** "The pad is a text of at most 80 characters"; "TOO_MANY if the pad would be longer than 80" */
    private static void atMostEightyCharacters() {
        for (int had = 71; had <= 80; had++) {
            for (int more = 1; more <= 8; more++) {
                StubbornBridges x = new StubbornBridges();
                Checks.type(x, "a".repeat(had));
                Checks.due("21: " + had + " and " + more, x.put(Checks.number("bbbbbbbb".substring(0, more))),
                    had + more > 80 ? -4 : had + more);
                Checks.due("21: the length", x.count(7), had + more > 80 ? had : had + more);
            }
        }
        StubbornBridges x = new StubbornBridges();
        Checks.type(x, "a".repeat(80));
        Checks.due("22: 80", x.wipe(), 80);
        Checks.type(x, "a".repeat(80));
        Checks.due("21: 80 again", x.count(7), 80);
    }

    /** "BAD_VALUE if there is no character ..; TOO_MANY .." */
    private static void valueBeforeTooMany() {
        StubbornBridges x = new StubbornBridges();
        Checks.type(x, "a".repeat(80));
        for (long bad : new long[] {0L, 32L, 127L, 'a' << 16 | 'a', -1L, Long.MIN_VALUE}) Checks.due("21: value", x.put(bad), -2);
        Checks.due("21: too many", x.put('a'), -4);
    }

    /** put(), wipe() and fault() are no changes, and no part of what is undone, saved or restored. */
    private static void padIsNoChange() {
        StubbornBridges x = new StubbornBridges();
        x.save(0);
        x.ticks(1);
        Checks.type(x, "t1;t2");
        x.undo();
        Checks.due("25: the pad stays", x.count(7), 5);
        x.ticks(1);
        x.wipe();
        x.undo();
        Checks.due("25: the pad stays empty", x.count(7), 0);
        x.put('t');
        x.restore(0);
        Checks.due("27: the pad stays", x.count(7), 1);
        x.fault();
        x.put('2');
        Checks.due("14: one change", x.count(8), 1);
        Checks.due("24: it is carried out", x.carryOut(), 1);
        Checks.due("14: two ticks", x.count(0), 2);
    }

    /** "Empties the pad, and returns the length that it had." */
    private static void wipeReturnsTheLength() {
        for (int length = 0; length <= 80; length += 4) {
            StubbornBridges x = new StubbornBridges();
            Checks.type(x, "t".repeat(length));
            Checks.due("22: length", x.wipe(), length);
            Checks.due("22: empty", x.count(7), 0);
            Checks.due("22: once more", x.wipe(), 0);
            Checks.due("23: empty", x.fault(), 0);
        }
    }

    /** The fault can be anywhere in 80 characters, and behind them. */
    private static void faultOfALongPad() {
        String many = "t1;".repeat(26);
        Checks.due("23: 80 characters", faultOf(many + "t1"), -6);
        Checks.due("23: the last one", faultOf(many + "t;"), 79);
        Checks.due("23: behind the last one", faultOf(many + "s1"), 80);
        Checks.due("23: a semicolon at the end", faultOf("r1;".repeat(25) + "r333;"), 80);
        for (int at = 0; at < 80; at++) {
            String text = many + "t1";
            Checks.due("23: at " + at, faultOf(text.substring(0, at) + "~" + text.substring(at + 1)), at);
        }
    }

    /** "BAD_TEXT if the pad has a fault (then it stays)"; nothing is recorded. */
    private static void badTextStays() {
        for (String text : new String[] {"", "t1;", "t1;x", "x", "s0>1*5;t5000", "t1;t2;t01"}) {
            StubbornBridges x = new StubbornBridges();
            Checks.type(x, text);
            int[] before = Checks.everything(x);
            for (int i = 0; i < 2; i++) Checks.due("24: bad text '" + text + "'", x.carryOut(), -3);
            Checks.same("24: nothing changes", Checks.everything(x), before);
            Checks.due("24: it stays", x.wipe(), text.length());
            Checks.due("24: nothing to undo", x.undo(), -5);
        }
    }

    /** "Carries the orders of the pad out, one after the other, up to the first one that returns an error" */
    private static void ordersStopAtTheFirstError() {
        for (int bad = 0; bad < 6; bad++) {
            StubbornBridges x = new StubbornBridges();
            StringBuilder text = new StringBuilder();
            for (int i = 0; i < 6; i++) text.append(i == 0 ? "" : ";").append(i == bad ? "t0" : "t" + (i + 1));
            Checks.type(x, text.toString());
            Checks.due("24: up to " + bad, x.carryOut(), bad);
            Checks.due("24: the tick", x.count(0), bad * (bad + 1) / 2);
            Checks.due("24: the pad is empty", x.count(7), 0);
        }
    }

    private static void order(StubbornBridges x, String order, int want) {
        Checks.type(x, order);
        Checks.due("24: " + order, x.carryOut(), want);
        Checks.due("24: the pad is empty after " + order, x.count(7), 0);
    }

    /** Each error that send(), resend(), forge() and ticks() can return for numbers that can be read. */
    private static void everyErrorOfAnOrder() {
        StubbornBridges x = new StubbornBridges();
        for (String bad : new String[] {"r0", "f0+0*1", "s0>0*5", "s7>7*5", "s0>1*0", "s0>1*0!", "s0>1*4001", "s0>1*4999", "t0",
            "t501", "t4999"}) {
            order(x, bad, 0);
        }
        Checks.due("24: nothing was sent", x.count(2) + x.count(3) + x.count(4) + x.count(0), 0);
        order(x, "s0>1*5", 1);
        for (String bad : new String[] {"r1", "r40", "r4999", "f1+0*1", "f0+4000*1", "f0+4999*1", "f0+0*0", "f0+0*1501",
            "f0+0*4999."}) {
            order(x, bad, 0);
        }
        Checks.due("24: one slice", x.count(4), 1);
        order(x, "f0+0*5.;t1;r0;t1", 2);
        Checks.due("24: broken by the seed 255", x.ofParcel(0, 5), 2);
        StubbornBridges y = new StubbornBridges();
        y.send(0, 1, 5, 0, 41);
        for (int i = y.count(3); i < 300; i++) y.resend(0);
        for (String full : new String[] {"s0>1*5", "r0", "f0+0*1"}) order(y, full, 0);
        order(y, "t1;f0+0*1;r0;s0>1*5", 4);
        for (int i = y.count(2); i < 40; i++) y.send(0, 1, 5, 0, 41);
        order(y, "r39;s0>1*5;r39", 1);
    }

    /** The greatest numbers that the calls take. */
    private static void theMostOfAnOrder() {
        StubbornBridges x = new StubbornBridges();
        order(x, "s7>6*4000;s6>7*1!;f1+3999*1500.;f0+3999*1;r1;t500", 6);
        Checks.due("24: 500 ticks", x.count(0), 500);
        Checks.due("24: size", x.ofParcel(0, 2), 4000);
        Checks.due("24: beyond 4000", x.count(16), 1);
        Checks.due("24: put, and timed out", x.ofParcel(0, 5), 3);
        Checks.due("24: sent twice", x.ofParcel(1, 6), 2);
        for (int i = x.count(2); i < 40; i++) x.send(0, 1, 5, 0, 41);
        order(x, "r39;f39+0*1;t1", 3);
        Checks.type(x, "t500;".repeat(15) + "t500");
        Checks.due("24: 16 times 500", x.carryOut(), 16);
        Checks.due("24: ticks", x.count(0), 501 + 8000);
    }

    /** "This is a change (one, with all of them"; "An order of a text records nothing by itself." */
    private static void oneChangeForAll() {
        StubbornBridges x = new StubbornBridges();
        x.send(0, 1, 9, 7, 41);
        int[] before = Checks.everything(x);
        order(x, "t1;s2>3*40;f0+1*2;t2;r1;f1+1*1.;t3;t1;t1", 9);
        Checks.due("24: one change", x.count(8), 2);
        Checks.due("25: undone at once", x.undo(), 1);
        Checks.same("25: all of them", Checks.everything(x), before);
    }

    /** "also if none is carried out" */
    private static void noneIsAlsoAChange() {
        StubbornBridges x = new StubbornBridges();
        for (int i = 1; i <= 8; i++) {
            order(x, "t0", 0);
            Checks.due("24: a change", x.count(8), Math.min(6, i));
        }
        for (int i = 5; i >= 0; i--) Checks.due("25: undone", x.undo(), i);
        Checks.due("25: none", x.undo(), -5);
    }

    /** "with the seed 0 and 20 hops, which may not be cut if "!" stands there"; "with the seed 255" */
    private static void twentyHopsAndSeeds() {
        StubbornBridges x = new StubbornBridges();
        x.bridge(0, 1, 16, 1, 1000);
        x.bridge(1, 0, 16, 1, 1000);
        x.route(0, 2, 0);
        x.route(1, 2, 1);
        order(x, "s0>2*8;s0>2*8!;t20", 3);
        Checks.due("24: 20 bridges each", x.ofBridge(0, 6) + x.ofBridge(1, 6), 40);
        Checks.due("24: they are under way", x.count(3), 2);
        order(x, "t1", 1);
        Checks.due("24: no hops any more", x.count(11), 2);
        Checks.due("24: no seed", x.ofParcel(0, 3) + x.ofParcel(1, 3), 0);
        order(x, "s0>2*9;s0>2*9!;t1", 3);
        Checks.due("24: one is cut", x.count(5), 1);
        Checks.due("24: one may not be", x.count(13), 1);
        order(x, "f2+0*3;t1", 2);
        for (int at = 0; at < 3; at++) Checks.due("24: seed 255", x.byteAt(2, at), Checks.byteOf(255, at));
    }

    /** Orders do what the calls do. */
    private static void ordersAsCalls() {
        StubbornBridges x = Checks.pair(30, 1, 9), y = Checks.pair(30, 1, 9);
        order(x, "s0>1*100;t1;s0>1*20!;r0;f1+2*3;f1+9*1.;t2;f0+4*4;t500", 9);
        y.send(0, 1, 100, 0, 41);
        y.ticks(1);
        y.send(0, 1, 20, 0, 40);
        y.resend(0);
        y.forge(1, 2, 3, 0, 255);
        y.forge(1, 9, 1, 1, 255);
        y.ticks(2);
        y.forge(0, 4, 4, 0, 255);
        y.ticks(500);
        int[] got = Checks.everything(x), want = Checks.everything(y);
        // One change, and nine.
        got[8] = want[8];
        Checks.same("24: as calls", got, want);
    }
}

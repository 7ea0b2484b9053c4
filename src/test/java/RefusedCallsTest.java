import java.util.function.IntSupplier;

/**
 * "A call that returns an error changes nothing.", for each error of each call, on an object that holds all there can
 * be; and "it names its errors in the order in which they are checked", for calls that are wrong in two ways.
 */
public final class RefusedCallsTest {
    private static final StubbornBridges X = full();
    private static final int[] BEFORE = Checks.everything(X);

    public static void main(String[] args) {
        settingUp();
        parcels();
        questions();
        textsAndSlots();
        tooMany();
        nothingToUndo();
        andOnAsBefore();
        Checks.finish();
    }

    /** Parcels in several states, slices on bridges and at nodes, a pad, a history of six and a saved state. */
    private static StubbornBridges full() {
        StubbornBridges x = new StubbornBridges();
        for (int i = 0; i < 4; i++) {
            x.bridge(i, (i + 1) % 4, 100 - 20 * i, 4, 9);
            for (int to = 0; to < 6; to++) x.route(i, to, i);
            x.mend(i, 100 - 20 * i, 3 + i);
            x.node(i, i % 3, 30, 300);
        }
        for (int i = 0; i < 12; i++) {
            x.send(i % 4, (i + 1 + i / 4) % 4, 20 + 10 * i, i, 30 + i);
            x.forge(i, 5 * i, 20, i % 5 == 1 ? 1 : 0, i);
            if (i == 6) x.save(0);
            x.ticks(4);
        }
        x.send(0, 3, 400, 0, 41);
        x.forge(12, 7, 7, 0, 0);
        Checks.type(x, "s0>1*5;t1;;");
        return x;
    }

    private static void refused(String call, IntSupplier answer, int want) {
        Checks.due(call, answer.getAsInt(), want);
        Checks.same("after " + call, Checks.everything(X), BEFORE);
    }

    private static void settingUp() {
        refused("node(8, 1, 2, 100)", () -> X.node(8, 1, 2, 100), -1);
        refused("node(1, 3, 2, 100)", () -> X.node(1, 3, 2, 100), -2);
        refused("node(1, 1, 0, 100)", () -> X.node(1, 1, 0, 100), -2);
        refused("node(1, 1, 2, 63)", () -> X.node(1, 1, 2, 63), -2);
        refused("bridge(0, 0, 100, 1, 1)", () -> X.bridge(0, 0, 100, 1, 1), -1);
        refused("bridge(0, 8, 100, 1, 1)", () -> X.bridge(0, 8, 100, 1, 1), -1);
        refused("bridge(0, 1, 15, 1, 1)", () -> X.bridge(0, 1, 15, 1, 1), -2);
        refused("bridge(0, 1, 100, 51, 1)", () -> X.bridge(0, 1, 100, 51, 1), -2);
        refused("bridge(0, 1, 100, 1, 0)", () -> X.bridge(0, 1, 100, 1, 0), -2);
        refused("mend(4, 100, 1)", () -> X.mend(4, 100, 1), -1);
        refused("mend(0, 15, 1)", () -> X.mend(0, 15, 1), -2);
        refused("mend(0, 77, 100)", () -> X.mend(0, 77, 100), -2);
        refused("route(0, 0, 0)", () -> X.route(0, 0, 0), -1);
        refused("route(0, 8, 0)", () -> X.route(0, 8, 0), -1);
        refused("route(0, 1, 4)", () -> X.route(0, 1, 4), -1);
        refused("route(0, 1, -1)", () -> X.route(0, 1, -1), -1);
        refused("route(0, 1, 1)", () -> X.route(0, 1, 1), -5);
    }

    private static void parcels() {
        refused("send(0, 0, 9, 0, 41)", () -> X.send(0, 0, 9, 0, 41), -1);
        refused("send(8, 0, 9, 0, 41)", () -> X.send(8, 0, 9, 0, 41), -1);
        refused("send(0, 1, 4001, 0, 41)", () -> X.send(0, 1, 4001, 0, 41), -2);
        refused("send(0, 1, 9, 256, 41)", () -> X.send(0, 1, 9, 256, 41), -2);
        refused("send(0, 1, 9, 0, 1)", () -> X.send(0, 1, 9, 0, 1), -2);
        refused("resend(13)", () -> X.resend(13), -1);
        for (int i = 0; i < 13; i++) {
            int parcel = i;
            if (X.ofParcel(i, 5) != 0) refused("resend(" + i + ")", () -> X.resend(parcel), -5);
        }
        refused("forge(13, 0, 1, 0, 0)", () -> X.forge(13, 0, 1, 0, 0), -1);
        refused("forge(12, 4000, 1, 0, 0)", () -> X.forge(12, 4000, 1, 0, 0), -2);
        refused("forge(12, 0, 0, 0, 0)", () -> X.forge(12, 0, 0, 0, 0), -2);
        refused("forge(12, 0, 1, 2, 0)", () -> X.forge(12, 0, 1, 2, 0), -2);
        refused("forge(12, 0, 1, 0, -1)", () -> X.forge(12, 0, 1, 0, -1), -2);
        refused("ticks(0)", () -> X.ticks(0), -2);
        refused("ticks(501)", () -> X.ticks(501), -2);
    }

    private static void questions() {
        refused("ofNode(8, 0)", () -> X.ofNode(8, 0), -1);
        refused("ofNode(0, 5)", () -> X.ofNode(0, 5), -2);
        refused("ofBridge(4, 0)", () -> X.ofBridge(4, 0), -1);
        refused("ofBridge(0, 9)", () -> X.ofBridge(0, 9), -2);
        refused("ofParcel(13, 0)", () -> X.ofParcel(13, 0), -1);
        refused("ofParcel(0, 14)", () -> X.ofParcel(0, 14), -2);
        refused("byteAt(13, 0)", () -> X.byteAt(13, 0), -1);
        refused("byteAt(0, 4000)", () -> X.byteAt(0, 4000), -2);
        refused("count(26)", () -> X.count(26), -2);
        refused("leastRoom(0, 0)", () -> X.leastRoom(0, 0), -1);
        refused("slices(0, 8, 1)", () -> X.slices(0, 8, 1), -1);
        refused("slices(0, 1, 0)", () -> X.slices(0, 1, 0), -2);
        refused("time(0, 8, 1)", () -> X.time(0, 8, 1), -1);
        refused("time(0, 1, 4001)", () -> X.time(0, 1, 4001), -2);
        refused("stateIn(13, 1)", () -> X.stateIn(13, 1), -1);
        refused("stateIn(12, 501)", () -> X.stateIn(12, 501), -2);
        refused("doneIn(13)", () -> X.doneIn(13), -1);
        refused("gap(13, 0)", () -> X.gap(13, 0), -1);
        refused("gap(12, 2)", () -> X.gap(12, 2), -2);
    }

    private static void textsAndSlots() {
        refused("put(0)", () -> X.put(0L), -2);
        refused("put(32)", () -> X.put(32L), -2);
        refused("put of a character above a 0", () -> X.put('t' << 16 | 't'), -2);
        refused("carryOut()", X::carryOut, -3);
        refused("save(2)", () -> X.save(2), -2);
        refused("save(-1)", () -> X.save(-1), -2);
        refused("restore(2)", () -> X.restore(2), -2);
        refused("restore(1)", () -> X.restore(1), -5);
    }

    /** TOO_MANY, each time on an object that is full of what there are too many of. */
    private static void tooMany() {
        StubbornBridges x = new StubbornBridges();
        for (int i = x.count(1); i < 16; i++) x.bridge(0, 1, 100, 1, 1);
        for (int i = x.count(2); i < 40; i++) x.send(0, 1, 9, 0, 41);
        for (int i = x.count(3); i < 300; i++) x.forge(0, 0, 1, 0, 0);
        Checks.type(x, "t1;".repeat(26) + "t1");
        int[] before = Checks.everything(x);
        Checks.due("bridge", x.bridge(2, 3, 16, 1, 1), -4);
        Checks.due("send", x.send(2, 3, 9, 0, 41), -4);
        Checks.due("resend", x.resend(0), -4);
        Checks.due("forge", x.forge(0, 0, 1, 0, 0), -4);
        Checks.due("put", x.put('1'), -4);
        Checks.same("too many", Checks.everything(x), before);
        Checks.due("the pad is as it was", x.carryOut(), 27);
    }

    private static void nothingToUndo() {
        StubbornBridges x = new StubbornBridges();
        x.put('t');
        int[] before = Checks.everything(x);
        Checks.due("undo", x.undo(), -5);
        Checks.due("restore", x.restore(0), -5);
        Checks.due("carryOut", x.carryOut(), -3);
        Checks.same("nothing to undo", Checks.everything(x), before);
    }

    /** What cannot be asked is as before, too: the pad's text, the slot, the history, and all that comes later. */
    private static void andOnAsBefore() {
        StubbornBridges y = full();
        Checks.due("the pad", X.fault(), y.fault());
        Checks.due("its length", X.wipe(), y.wipe());
        X.ticks(100);
        y.ticks(100);
        Checks.same("later", Checks.everything(X), Checks.everything(y));
        for (int i = 5; i >= 0; i--) {
            Checks.due("undone", X.undo(), i);
            y.undo();
            Checks.same("undone " + i, Checks.everything(X), Checks.everything(y));
        }
        Checks.due("restored", X.restore(0), y.restore(0));
        Checks.same("restored", Checks.everything(X), Checks.everything(y));
    }
}

import java.util.Random;

/** Long runs of random calls, answered by the program and by the plain model. The seeds are fixed. */
public final class RandomRunsTest {
    private static final int CALLS = 512;
    private static final int[] STRANGE = {Integer.MIN_VALUE, Integer.MAX_VALUE, -1, -6, 0, 1, 8, 16, 40, 300, 4000, 65536};
    private static final String[] ORDERS = {"t", "t", "s", "s", "s", "f", "f", "r"};

    private final Random random;
    private final StubbornBridges x = new StubbornBridges();
    private final PlainModel model = new PlainModel();
    private final String run;
    /** How many nodes are used, and how wide the numbers go: few nodes and small numbers meet more often. */
    private final int nodes;
    private final int sizes;
    private final int strangeness;
    private int bridges = 0;
    private int parcels = 0;

    private RandomRunsTest(int seed) {
        random = new Random(seed);
        run = "run " + seed + ": ";
        nodes = 2 + random.nextInt(7);
        sizes = new int[] {40, 300, 1500, 4000}[random.nextInt(4)];
        strangeness = new int[] {0, 30, 8}[random.nextInt(3)];
    }

    public static void main(String[] args) {
        int runs = args.length > 0 ? Integer.parseInt(args[0]) : 400;
        int first = args.length > 1 ? Integer.parseInt(args[1]) : 0;
        for (int seed = first; seed < first + runs; seed++) new RandomRunsTest(seed).go();
        Checks.finish();
    }

    private void go() {
        setUp();
        for (int i = 0; i < CALLS; i++) {
            int kind = random.nextInt(100);
            if (kind < 45) change(random.nextInt(31));
            else if (kind < 80) ask(random.nextInt(11));
            else text(random.nextInt(10));
            if (i % 64 == 63) compareAll();
        }
        compareAll();
    }

    private void due(String call, int got, int want) {
        Checks.due(run + call, got, want);
    }

    private int upTo(int most) {
        if (strangeness > 0 && random.nextInt(strangeness * 4) == 0) return STRANGE[random.nextInt(STRANGE.length)];
        return random.nextInt(most + 1);
    }

    private int from(int least, int most) {
        if (strangeness > 0 && random.nextInt(strangeness * 4) == 0) return STRANGE[random.nextInt(STRANGE.length)];
        return least + random.nextInt(most - least + 1);
    }

    private int node() {
        return upTo(nodes - 1);
    }

    private int parcel() {
        return upTo(Math.max(0, Math.min(parcels, 39)));
    }

    private int room() {
        switch (random.nextInt(4)) {
            case 0: return from(16, 40);
            case 1: return from(16, 200);
            default: return from(16, 1500);
        }
    }

    private int pace() {
        return random.nextBoolean() ? from(1, 30) : from(1, 1000);
    }

    private int space() {
        return random.nextBoolean() ? from(64, 64 + sizes) : from(64, 20000);
    }

    /** A ring of bridges and some across it, with routes that mostly lead somewhere. */
    private void setUp() {
        for (int node = 0; node < nodes; node++) {
            addBridge(node, (node + 1) % nodes);
            for (int to = 0; to < nodes; to++) {
                if (random.nextInt(10) > 0) tellRoute(node, to, node);
            }
        }
        for (int i = random.nextInt(6); i > 0; i--) addBridge(node(), node());
        if (random.nextBoolean()) mend();
        if (random.nextBoolean()) changeNode();
    }

    private void addBridge(int from, int to) {
        int room = room(), delay = random.nextBoolean() ? from(1, 5) : from(1, 50), pace = pace();
        int got = x.bridge(from, to, room, delay, pace);
        due("bridge", got, model.bridge(from, to, room, delay, pace));
        if (got >= 0) bridges = got + 1;
    }

    private void tellRoute(int node, int to, int bridge) {
        due("route", x.route(node, to, bridge), model.route(node, to, bridge));
    }

    private void mend() {
        int bridge = upTo(bridges), room = room(), turns = random.nextBoolean() ? from(0, 5) : from(0, 99);
        due("mend", x.mend(bridge, room, turns), model.mend(bridge, room, turns));
    }

    private void changeNode() {
        int node = node(), way = upTo(2), out = random.nextBoolean() ? from(1, 20) : from(1, 500), space = space();
        due("node", x.node(node, way, out, space), model.node(node, way, out, space));
    }

    private void send() {
        int from = node(), to = node(), size = from(1, sizes), seed = upTo(255);
        int how = random.nextInt(3) == 0 ? from(2, 41) : 41;
        int got = x.send(from, to, size, seed, how);
        due("send", got, model.send(from, to, size, seed, how));
        if (got >= 0) parcels = got + 1;
    }

    private void forge() {
        int parcel = parcel(), offset = upTo(Math.min(3999, sizes)), length = from(1, Math.min(1500, sizes));
        int last = random.nextInt(4) == 0 ? from(0, 1) : 0, seed = random.nextBoolean() ? 7 : upTo(255);
        if (random.nextInt(3) == 0) {
            int size = model.ofParcel(parcel, 2);
            offset = offset / 8 * 8;
            if (size > offset && size - offset <= 1500) {
                length = size - offset;
                last = 1;
            }
            seed = Math.max(0, model.ofParcel(parcel, 3));
        }
        due("forge", x.forge(parcel, offset, length, last, seed), model.forge(parcel, offset, length, last, seed));
    }

    private void fillGap() {
        int parcel = parcel(), offset = model.gap(parcel, 0), length = model.gap(parcel, 1);
        int seed = Math.max(0, model.ofParcel(parcel, 3));
        if (offset < 0 || length < 1) return;
        due("forge", x.forge(parcel, offset, length, 0, seed), model.forge(parcel, offset, length, 0, seed));
    }

    private void ticks() {
        int ticks = random.nextInt(8) == 0 ? from(1, 500) : from(1, 9);
        due("ticks", x.ticks(ticks), model.ticks(ticks));
    }

    private void change(int kind) {
        if (kind < 8) send();
        else if (kind < 16) ticks();
        else if (kind < 21) forge();
        else if (kind == 21) fillGap();
        else if (kind == 22) mend();
        else if (kind == 23) changeNode();
        else if (kind == 24) addBridge(node(), node());
        else if (kind == 25) tellRoute(node(), node(), random.nextInt(5) == 0 ? -6 : upTo(bridges));
        else if (kind < 28) undo();
        else if (kind == 28) save();
        else if (kind == 29) restore();
        else resend();
    }

    private void resend() {
        int parcel = parcel();
        int often = random.nextInt(20) == 0 ? 40 : 1;
        for (int i = 0; i < often; i++) due("resend", x.resend(parcel), model.resend(parcel));
    }

    private void undo() {
        due("undo", x.undo(), model.undo());
        parcels = Math.max(0, model.count(2));
        bridges = Math.max(0, model.count(1));
    }

    private void save() {
        int slot = from(0, 1);
        due("save", x.save(slot), model.save(slot));
    }

    private void restore() {
        int slot = from(0, 1);
        due("restore", x.restore(slot), model.restore(slot));
        parcels = Math.max(0, model.count(2));
        bridges = Math.max(0, model.count(1));
    }

    private void ask(int kind) {
        int a = node(), b = node(), parcel = parcel(), size = from(1, sizes), what;
        switch (kind) {
            case 0: due("leastRoom", x.leastRoom(a, b), model.leastRoom(a, b)); break;
            case 1: due("slices", x.slices(a, b, size), model.slices(a, b, size)); break;
            case 2: due("time", x.time(a, b, size), model.time(a, b, size)); break;
            case 3:
                what = random.nextInt(4) == 0 ? from(1, 500) : from(1, 20);
                due("stateIn", x.stateIn(parcel, what), model.stateIn(parcel, what));
                break;
            case 4:
                if (random.nextInt(4) == 0) due("doneIn", x.doneIn(parcel), model.doneIn(parcel));
                break;
            case 5: due("gap", x.gap(parcel, 0), model.gap(parcel, 0)); break;
            case 6: due("gap", x.gap(parcel, 1), model.gap(parcel, 1)); break;
            case 7:
                what = upTo(sizes);
                due("byteAt", x.byteAt(parcel, what), model.byteAt(parcel, what));
                break;
            case 8:
                what = upTo(13);
                due("ofParcel", x.ofParcel(parcel, what), model.ofParcel(parcel, what));
                break;
            case 9:
                what = upTo(25);
                due("count", x.count(what), model.count(what));
                break;
            default:
                what = upTo(17);
                due("ofNode", x.ofNode(a, what), model.ofNode(a, what));
                due("ofBridge", x.ofBridge(a, what), model.ofBridge(a, what));
        }
    }

    private void text(int kind) {
        if (kind < 5) {
            if (random.nextInt(6) > 0) type((model.count(7) == 0 ? "" : ";") + order());
            else type(spoil((model.count(7) == 0 ? "" : ";") + order()));
        } else if (kind < 7) {
            due("fault", x.fault(), model.fault());
        } else if (kind < 9) {
            int done = x.carryOut();
            due("carryOut", done, model.carryOut());
            if (done < 0 && random.nextInt(3) > 0) due("wipe", x.wipe(), model.wipe());
            parcels = Math.max(0, model.count(2));
        } else if (random.nextInt(3) == 0) {
            due("wipe", x.wipe(), model.wipe());
        } else {
            long any = random.nextLong() >>> 8 * random.nextInt(9);
            due("put", x.put(any), model.put(any));
        }
    }

    private void type(String text) {
        for (int at = 0; at < text.length(); at += 8) {
            long number = Checks.number(text.substring(at, Math.min(text.length(), at + 8)));
            due("put", x.put(number), model.put(number));
        }
    }

    private String order() {
        int a = random.nextInt(nodes), b = random.nextInt(nodes), size = 1 + random.nextInt(sizes);
        int p = random.nextInt(parcels + 1);
        switch (ORDERS[random.nextInt(ORDERS.length)]) {
            case "s": return "s" + a + ">" + b + "*" + size + (random.nextInt(3) == 0 ? "!" : "");
            case "r": return "r" + p;
            case "f":
                return "f" + p + "+" + random.nextInt(sizes) + "*" + (1 + random.nextInt(200)) + (random.nextInt(3) == 0 ? "." : "");
            default: return "t" + random.nextInt(12);
        }
    }

    private String spoil(String text) {
        String signs = "srft0123456789>*+!.;~";
        char sign = signs.charAt(random.nextInt(signs.length()));
        int at = random.nextInt(text.length());
        return random.nextBoolean() ? text.substring(0, at) + sign + text.substring(at)
            : text.substring(0, at) + sign + text.substring(at + 1);
    }

    private void compareAll() {
        for (int what = -1; what <= 26; what++) due("count " + what, x.count(what), model.count(what));
        for (int node = 0; node < 8; node++) {
            for (int what = 0; what < 18; what++) due("ofNode " + what, x.ofNode(node, what), model.ofNode(node, what));
        }
        for (int bridge = 0; bridge < 16; bridge++) {
            for (int what = 0; what < 9; what++) due("ofBridge " + what, x.ofBridge(bridge, what), model.ofBridge(bridge, what));
        }
        for (int parcel = 0; parcel < 40; parcel++) {
            for (int what = 0; what < 14; what++) due("ofParcel " + what, x.ofParcel(parcel, what), model.ofParcel(parcel, what));
            for (int at = parcel; at < 4000; at += 37) due("byteAt " + at, x.byteAt(parcel, at), model.byteAt(parcel, at));
        }
        due("fault", x.fault(), model.fault());
    }
}

import java.util.Random;

/** Calls with any arguments, far more than 512 on an object: none may throw, and each one ends. The seeds are fixed. */
public final class AnyArgumentsTest {
    private static final int[] EDGES = {Integer.MIN_VALUE, Integer.MIN_VALUE + 1, -7, -6, -1, 0, 1, 2, 7, 8, 15, 16, 17, 39, 40, 41,
        60, 64, 255, 256, 300, 500, 501, 1000, 1500, 3999, 4000, 4001, 20000, Integer.MAX_VALUE - 1, Integer.MAX_VALUE};
    private static final String SIGNS = "srft0123456789>*+!.;";

    private final Random random;
    private final StubbornBridges x = new StubbornBridges();

    private AnyArgumentsTest(int seed) {
        random = new Random(seed);
    }

    public static void main(String[] args) {
        for (int seed = 0; seed < 40; seed++) {
            AnyArgumentsTest test = new AnyArgumentsTest(seed);
            int threw = 0;
            for (int i = 0; i < 3000; i++) threw += test.call(i);
            Checks.due("object " + seed + ", calls that threw", threw, 0);
        }
        Checks.finish();
    }

    private int any(int usual) {
        int kind = random.nextInt(20);
        if (kind == 0) return random.nextInt();
        return kind < 3 ? EDGES[random.nextInt(EDGES.length)] : random.nextInt(usual);
    }

    private int call(int i) {
        try {
            one(i % 26 < 4 ? i % 26 : random.nextInt(30));
            return 0;
        } catch (RuntimeException | Error e) {
            e.printStackTrace(System.out);
            return 1;
        }
    }

    private void one(int method) {
        int node = any(8), other = any(8), parcel = any(40), bridge = any(16);
        switch (method) {
            case 0: x.node(node, any(3), any(501), any(2000)); break;
            case 1: x.bridge(node, other, any(200), any(51), any(1001)); break;
            case 2: x.mend(bridge, any(200), any(100)); break;
            case 3: for (int to = 0; to < 8; to++) x.route(node, to, bridge); break;
            case 4: x.resend(parcel); break;
            case 5: x.forge(parcel, any(4000), any(1501), any(2), any(256)); break;
            case 6: x.ticks(any(501)); break;
            case 7: x.ofNode(node, any(18)); break;
            case 8: x.ofBridge(bridge, any(9)); break;
            case 9: x.ofParcel(parcel, any(14)); break;
            case 10: x.byteAt(parcel, any(4000)); break;
            case 11: x.count(any(26)); break;
            case 12: x.leastRoom(node, other); break;
            case 13: x.slices(node, other, any(4001)); break;
            case 14: x.time(node, other, any(4001)); break;
            case 15: x.stateIn(parcel, any(501)); break;
            case 16: x.doneIn(parcel); break;
            case 17: x.gap(parcel, any(2)); break;
            case 18: x.put(random.nextLong() >>> 8 * random.nextInt(9)); break;
            case 19: x.wipe(); break;
            case 20: x.fault(); break;
            case 21: x.carryOut(); break;
            case 22: x.undo(); break;
            case 23: x.save(any(2)); break;
            case 24: x.restore(any(2)); break;
            case 25: x.put(SIGNS.charAt(random.nextInt(SIGNS.length()))); break;
            default: x.send(node, other, any(4001), any(256), any(42));
        }
    }
}

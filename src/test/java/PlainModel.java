import java.util.ArrayDeque;
import java.util.ArrayList;
import java.util.Arrays;
import java.util.List;
import java.util.regex.Matcher;
import java.util.regex.Pattern;

/**
 * What the document says, done in the plainest way: one tick at a time, one number a byte, a whole copy for each state.
 * It shares no code with the program, so that the two can be compared.
 */
final class PlainModel {
    static final int NO_SUCH = -1, BAD_VALUE = -2, BAD_TEXT = -3, TOO_MANY = -4, NOT_POSSIBLE = -5, NONE = -6;
    private static final String N = "(?:0|[1-9][0-9]{0,2}|[1-4][0-9]{3})";
    private static final String ORDER =
        "(?:s[0-7]>[0-7]\\*" + N + "!?|r" + N + "|f" + N + "\\+" + N + "\\*" + N + "\\.?|t" + N + ")";
    private static final Pattern TEXT = Pattern.compile(ORDER + "(?:;" + ORDER + ")*");

    private static final class Slice {
        int number, parcel, offset, length, hops, seed, node, arrival;
        boolean last;

        Slice copy() {
            Slice c = new Slice();
            c.number = number;
            c.parcel = parcel;
            c.offset = offset;
            c.length = length;
            c.hops = hops;
            c.seed = seed;
            c.node = node;
            c.arrival = arrival;
            c.last = last;
            return c;
        }
    }

    private static final class Parcel {
        int from, to, size, seed, how, state, times, dropped;
        Integer done, first, whole;
        int[] bytes = new int[4000];

        Parcel() {
            Arrays.fill(bytes, -1);
        }

        Parcel copy() {
            Parcel c = new Parcel();
            c.from = from;
            c.to = to;
            c.size = size;
            c.seed = seed;
            c.how = how;
            c.state = state;
            c.times = times;
            c.dropped = dropped;
            c.done = done;
            c.first = first;
            c.whole = whole;
            c.bytes = bytes.clone();
            return c;
        }

        int there() {
            int n = 0;
            for (int b : bytes) if (b >= 0) n++;
            return n;
        }

        int firstMissing() {
            for (int i = 0; i < 4000; i++) if (bytes[i] < 0) return i;
            return 4000;
        }
    }

    private static final class State {
        int tick, made, cut, put;
        int[][] nodes = new int[8][3];
        int[][] routes = new int[8][8];
        List<int[]> bridges = new ArrayList<>();
        List<Parcel> parcels = new ArrayList<>();
        List<Slice> slices = new ArrayList<>();
        int[] dropped = new int[8];

        State copy() {
            State c = new State();
            c.tick = tick;
            c.made = made;
            c.cut = cut;
            c.put = put;
            for (int i = 0; i < 8; i++) c.nodes[i] = nodes[i].clone();
            for (int i = 0; i < 8; i++) c.routes[i] = routes[i].clone();
            for (int[] b : bridges) c.bridges.add(b.clone());
            for (Parcel p : parcels) c.parcels.add(p.copy());
            for (Slice s : slices) c.slices.add(s.copy());
            c.dropped = dropped.clone();
            return c;
        }
    }

    private State now = new State();
    private final ArrayDeque<State> history = new ArrayDeque<>();
    private final State[] slots = new State[2];
    private String pad = "";
    private boolean recording = true;

    PlainModel() {
        for (int[] n : now.nodes) {
            n[1] = 60;
            n[2] = 8000;
        }
        for (int[] r : now.routes) Arrays.fill(r, NONE);
    }

    private void change() {
        if (!recording) return;
        history.addLast(now.copy());
        if (history.size() > 6) history.removeFirst();
    }

    private static boolean bad(int value, int least, int most) {
        return value < least || value > most;
    }

    private static boolean noPair(int a, int b) {
        return bad(a, 0, 7) || bad(b, 0, 7) || a == b;
    }

    private boolean noParcel(int p) {
        return bad(p, 0, now.parcels.size() - 1);
    }

    int node(int node, int way, int timeOut, int space) {
        if (bad(node, 0, 7)) return NO_SUCH;
        if (bad(way, 0, 2) || bad(timeOut, 1, 500) || bad(space, 64, 20000)) return BAD_VALUE;
        change();
        int before = now.nodes[node][0];
        now.nodes[node] = new int[] {way, timeOut, space};
        return before;
    }

    int bridge(int from, int to, int room, int delay, int pace) {
        if (noPair(from, to)) return NO_SUCH;
        if (bad(room, 16, 1500) || bad(delay, 1, 50) || bad(pace, 1, 1000)) return BAD_VALUE;
        if (now.bridges.size() == 16) return TOO_MANY;
        change();
        now.bridges.add(new int[] {from, to, room, delay, pace, 0, 0, 0, 0});
        return now.bridges.size() - 1;
    }

    int mend(int bridge, int room, int turns) {
        if (bad(bridge, 0, now.bridges.size() - 1)) return NO_SUCH;
        if (bad(room, 16, 1500) || bad(turns, 0, 99)) return BAD_VALUE;
        change();
        int[] b = now.bridges.get(bridge);
        int before = b[2];
        b[2] = room;
        b[5] = turns;
        b[6] = 0;
        return before;
    }

    int route(int node, int to, int bridge) {
        if (noPair(node, to)) return NO_SUCH;
        if (bridge != NONE && bad(bridge, 0, now.bridges.size() - 1)) return NO_SUCH;
        if (bridge != NONE && now.bridges.get(bridge)[0] != node) return NOT_POSSIBLE;
        change();
        int before = now.routes[node][to];
        now.routes[node][to] = bridge;
        return before;
    }

    private void newSlice(int parcel, int offset, int length, boolean last, int hops, int seed, int node) {
        Slice s = new Slice();
        s.number = now.made++;
        s.parcel = parcel;
        s.offset = offset;
        s.length = length;
        s.last = last;
        s.hops = hops;
        s.seed = seed;
        s.node = node;
        s.arrival = now.tick;
        now.slices.add(s);
    }

    int send(int from, int to, int size, int seed, int how) {
        if (noPair(from, to)) return NO_SUCH;
        if (bad(size, 1, 4000) || bad(seed, 0, 255) || bad(how, 2, 41)) return BAD_VALUE;
        if (now.parcels.size() == 40 || now.slices.size() == 300) return TOO_MANY;
        change();
        Parcel p = new Parcel();
        p.from = from;
        p.to = to;
        p.size = size;
        p.seed = seed;
        p.how = how;
        p.times = 1;
        now.parcels.add(p);
        newSlice(now.parcels.size() - 1, 0, size, true, how / 2, seed, from);
        return now.parcels.size() - 1;
    }

    int resend(int parcel) {
        if (noParcel(parcel)) return NO_SUCH;
        if (now.slices.size() == 300) return TOO_MANY;
        if (now.parcels.get(parcel).state != 0) return NOT_POSSIBLE;
        change();
        Parcel p = now.parcels.get(parcel);
        newSlice(parcel, 0, p.size, true, p.how / 2, p.seed, p.from);
        return ++p.times;
    }

    int forge(int parcel, int offset, int length, int last, int seed) {
        if (noParcel(parcel)) return NO_SUCH;
        if (bad(offset, 0, 3999) || bad(length, 1, 1500) || bad(last, 0, 1) || bad(seed, 0, 255)) return BAD_VALUE;
        if (now.slices.size() == 300) return TOO_MANY;
        change();
        newSlice(parcel, offset, length, last == 1, 7, seed, now.parcels.get(parcel).to);
        return now.slices.size();
    }

    int ticks(int ticks) {
        if (bad(ticks, 1, 500)) return BAD_VALUE;
        change();
        for (int i = 0; i < ticks; i++) oneTick(now);
        return now.tick;
    }

    private static void drop(State w, Slice s, int reason) {
        w.dropped[reason]++;
        w.parcels.get(s.parcel).dropped++;
    }

    private static void oneTick(State w) {
        List<Slice> arriving = new ArrayList<>();
        for (Slice s : w.slices) if (s.arrival == w.tick) arriving.add(s);
        arriving.sort((a, b) -> Integer.compare(a.number, b.number));
        for (Slice s : arriving) {
            w.slices.remove(s);
            arrive(w, s);
        }
        for (int node = 0; node < 8; node++) {
            for (Parcel p : w.parcels) {
                if (p.to != node || p.first == null) continue;
                if (w.tick - p.first >= w.nodes[node][1]) giveUp(w, p, 3);
            }
        }
        w.tick++;
    }

    private static void giveUp(State w, Parcel p, int state) {
        p.state = state;
        p.done = w.tick;
        p.first = null;
        p.whole = null;
        Arrays.fill(p.bytes, -1);
    }

    private static void arrive(State w, Slice s) {
        Parcel p = w.parcels.get(s.parcel);
        if (s.node == p.to) {
            putTogether(w, s, p);
            return;
        }
        if (s.hops == 0) {
            drop(w, s, 1);
            return;
        }
        int route = w.routes[s.node][p.to];
        if (route == NONE) {
            drop(w, s, 2);
            return;
        }
        s.hops--;
        int[] b = w.bridges.get(route);
        List<Slice> on = new ArrayList<>();
        if (s.length + 8 <= b[2]) {
            on.add(s);
        } else if (p.how % 2 == 0) {
            drop(w, s, 3);
        } else {
            w.cut++;
            int step = (b[2] - 8) / 8 * 8;
            for (int at = 0; at < s.length; at += step) {
                Slice piece = s.copy();
                piece.number = w.made++;
                piece.offset = s.offset + at;
                piece.length = Math.min(step, s.length - at);
                piece.last = s.last && at + step >= s.length;
                on.add(piece);
            }
        }
        for (Slice piece : on) goOn(w, piece, b);
    }

    private static void goOn(State w, Slice s, int[] b) {
        if (w.slices.size() >= 300) {
            drop(w, s, 5);
            return;
        }
        b[6]++;
        if (b[5] > 0 && b[6] % b[5] == 0) {
            b[7]++;
            drop(w, s, 4);
            return;
        }
        b[8] += s.length + 8;
        s.node = b[1];
        s.arrival = w.tick + b[3] + (s.length + 8) / b[4];
        w.slices.add(s);
    }

    private static int byteOf(int s, int i) {
        return (s * 31 + i * 7 + i / 256) % 256;
    }

    private static void putTogether(State w, Slice s, Parcel p) {
        int end = s.offset + s.length;
        if (p.state != 0) {
            drop(w, s, 7);
            return;
        }
        boolean misfit = end > 4000;
        if (p.whole != null) misfit |= s.last && end != p.whole || end > p.whole;
        if (s.last) for (int i = end; i < 4000; i++) misfit |= p.bytes[i] >= 0;
        if (misfit) {
            drop(w, s, 6);
            return;
        }
        w.put++;
        int way = w.nodes[p.to][0];
        boolean overlap = false;
        for (int i = s.offset; i < end; i++) overlap |= p.bytes[i] >= 0;
        if (overlap && way == 2) {
            giveUp(w, p, 5);
        } else {
            for (int i = s.offset; i < end; i++) {
                if (p.bytes[i] < 0 || way == 1) p.bytes[i] = byteOf(s.seed, i);
            }
            if (p.first == null) p.first = w.tick;
            if (s.last) p.whole = end;
        }
        while (bytesAt(w, p.to) > w.nodes[p.to][2]) {
            Parcel eldest = null;
            for (Parcel q : w.parcels) {
                if (q.to == p.to && q.first != null && (eldest == null || q.first < eldest.first)) eldest = q;
            }
            giveUp(w, eldest, 4);
        }
        if (p.whole == null || p.there() < p.whole) return;
        int sum = 0;
        for (int i = 0; i < p.whole; i++) sum += p.bytes[i];
        giveUp(w, p, sum % 65521 == sent(p) && p.whole == p.size ? 1 : 2);
    }

    private static int sent(Parcel p) {
        int sum = 0;
        for (int i = 0; i < p.size; i++) sum += byteOf(p.seed, i);
        return sum % 65521;
    }

    private static int bytesAt(State w, int node) {
        int n = 0;
        for (Parcel p : w.parcels) if (p.to == node && p.first != null) n += p.there();
        return n;
    }

    int ofNode(int node, int what) {
        if (bad(node, 0, 7)) return NO_SUCH;
        if (what >= 0 && what <= 2) return now.nodes[node][what];
        if (what == 3) return bytesAt(now, node);
        if (what == 4) return (int) now.parcels.stream().filter(p -> p.to == node && p.first != null).count();
        return bad(what, 10, 17) ? BAD_VALUE : now.routes[node][what - 10];
    }

    int ofBridge(int bridge, int what) {
        if (bad(bridge, 0, now.bridges.size() - 1)) return NO_SUCH;
        return bad(what, 0, 8) ? BAD_VALUE : now.bridges.get(bridge)[what];
    }

    int ofParcel(int parcel, int what) {
        if (noParcel(parcel)) return NO_SUCH;
        if (bad(what, 0, 13)) return BAD_VALUE;
        Parcel p = now.parcels.get(parcel);
        int underWay = (int) now.slices.stream().filter(s -> s.parcel == parcel).count();
        return new int[] {p.from, p.to, p.size, p.seed, p.how % 2, p.state, p.times, underWay, p.there(),
            p.whole == null ? NONE : p.whole, p.firstMissing(), p.done == null ? NONE : p.done, sent(p), p.dropped}[what];
    }

    int byteAt(int parcel, int at) {
        if (noParcel(parcel)) return NO_SUCH;
        if (bad(at, 0, 3999)) return BAD_VALUE;
        int b = now.parcels.get(parcel).bytes[at];
        return b < 0 ? NONE : b;
    }

    int count(int what) {
        if (what >= 11 && what <= 17) return now.dropped[what - 10];
        if (what >= 20 && what <= 25) return (int) now.parcels.stream().filter(p -> p.state == what - 20).count();
        if (bad(what, 0, 9)) return BAD_VALUE;
        int next = now.slices.stream().mapToInt(s -> s.arrival).min().orElse(NONE);
        return new int[] {now.tick, now.bridges.size(), now.parcels.size(), now.slices.size(), now.made, now.cut, now.put,
            pad.length(), history.size(), next}[what];
    }

    /** The bridges on the way, or null. */
    private List<int[]> way(int from, int to) {
        List<int[]> way = new ArrayList<>();
        int node = from;
        while (node != to) {
            if (way.size() > 20 || now.routes[node][to] == NONE) return null;
            int[] b = now.bridges.get(now.routes[node][to]);
            way.add(b);
            node = b[1];
        }
        return way;
    }

    int leastRoom(int from, int to) {
        if (noPair(from, to)) return NO_SUCH;
        List<int[]> way = way(from, to);
        return way == null ? NONE : way.stream().mapToInt(b -> b[2]).min().getAsInt();
    }

    /** For each slice that comes: its length, and the ticks after which it comes. */
    private List<int[]> coming(List<int[]> way, int size) {
        List<int[]> slices = List.of(new int[] {size, 0});
        for (int[] b : way) {
            List<int[]> behind = new ArrayList<>();
            for (int[] s : slices) {
                int step = s[0] + 8 <= b[2] ? s[0] : (b[2] - 8) / 8 * 8;
                for (int at = 0; at < s[0]; at += step) {
                    int length = Math.min(step, s[0] - at);
                    behind.add(new int[] {length, s[1] + b[3] + (length + 8) / b[4]});
                }
            }
            slices = behind;
        }
        return slices;
    }

    int slices(int from, int to, int size) {
        if (noPair(from, to)) return NO_SUCH;
        if (bad(size, 1, 4000)) return BAD_VALUE;
        List<int[]> way = way(from, to);
        return way == null ? NONE : coming(way, size).size();
    }

    int time(int from, int to, int size) {
        if (noPair(from, to)) return NO_SUCH;
        if (bad(size, 1, 4000)) return BAD_VALUE;
        List<int[]> way = way(from, to);
        return way == null ? NONE : coming(way, size).stream().mapToInt(s -> s[1]).max().getAsInt();
    }

    int stateIn(int parcel, int ticks) {
        if (noParcel(parcel)) return NO_SUCH;
        if (bad(ticks, 1, 500)) return BAD_VALUE;
        State then = now.copy();
        for (int i = 0; i < ticks; i++) oneTick(then);
        return then.parcels.get(parcel).state;
    }

    int doneIn(int parcel) {
        if (noParcel(parcel)) return NO_SUCH;
        State then = now.copy();
        for (int i = 0; i <= 1000; i++) {
            if (then.parcels.get(parcel).state != 0) return i;
            oneTick(then);
        }
        return NONE;
    }

    int gap(int parcel, int what) {
        if (noParcel(parcel)) return NO_SUCH;
        if (bad(what, 0, 1)) return BAD_VALUE;
        Parcel p = now.parcels.get(parcel);
        if (p.state != 0 || p.there() == 0) return NONE;
        int start = p.firstMissing();
        if (what == 0) return start;
        for (int i = start; i < 4000; i++) if (p.bytes[i] >= 0) return i - start;
        return p.whole == null ? NONE : p.whole - start;
    }

    int put(long characters) {
        StringBuilder text = new StringBuilder();
        boolean ended = false;
        for (int i = 0; i < 8; i++) {
            int code = (int) (characters >>> 8 * i) & 255;
            if (code == 0) ended = true;
            else if (ended || code < 33 || code > 126) return BAD_VALUE;
            else text.insert(0, (char) code);
        }
        if (text.length() == 0) return BAD_VALUE;
        if (pad.length() + text.length() > 80) return TOO_MANY;
        pad += text;
        return pad.length();
    }

    int wipe() {
        int length = pad.length();
        pad = "";
        return length;
    }

    int fault() {
        if (TEXT.matcher(pad).matches()) return NONE;
        for (int i = 1; i <= pad.length(); i++) {
            Matcher m = TEXT.matcher(pad.substring(0, i));
            if (!m.matches() && !m.hitEnd()) return i - 1;
        }
        return pad.length();
    }

    int carryOut() {
        if (fault() != NONE) return BAD_TEXT;
        change();
        recording = false;
        int done = 0;
        for (String order : pad.split(";")) {
            if (obey(order) < 0) break;
            done++;
        }
        recording = true;
        pad = "";
        return done;
    }

    private int obey(String order) {
        String[] numbers = order.substring(1).split("[^0-9]+");
        int[] n = new int[3];
        for (int i = 0; i < numbers.length; i++) n[i] = Integer.parseInt(numbers[i]);
        switch (order.charAt(0)) {
            case 's': return send(n[0], n[1], n[2], 0, order.endsWith("!") ? 40 : 41);
            case 'r': return resend(n[0]);
            case 'f': return forge(n[0], n[1], n[2], order.endsWith(".") ? 1 : 0, 255);
            default: return ticks(n[0]);
        }
    }

    int undo() {
        if (history.isEmpty()) return NOT_POSSIBLE;
        now = history.removeLast();
        return history.size();
    }

    int save(int slot) {
        if (bad(slot, 0, 1)) return BAD_VALUE;
        slots[slot] = now.copy();
        return now.tick;
    }

    int restore(int slot) {
        if (bad(slot, 0, 1)) return BAD_VALUE;
        if (slots[slot] == null) return NOT_POSSIBLE;
        change();
        now = slots[slot].copy();
        return now.tick;
    }
}

/**
 * Parcels that go over bridges in slices and are put together again at the other end.
 * What each method promises stands in ../shared/DOC.md.
 */
public final class StubbornBridges {
    public static final int NO_SUCH = -1, BAD_VALUE = -2, BAD_TEXT = -3, TOO_MANY = -4, NOT_POSSIBLE = -5, NONE = -6;
    public static final int ON_ITS_WAY = 0, WHOLE = 1, BROKEN = 2, TIMED_OUT = 3, EVICTED = 4, REFUSED = 5;

    private static final int NODES = 8, MOST_BRIDGES = 16, MOST_PARCELS = 40, MOST_SLICES = 300, MOST_BYTES = 4000;
    private static final int LEAST_ROOM = 16, MOST_ROOM = 1500;
    /** What a slice needs on a bridge besides its bytes. */
    private static final int HEAD = 8;
    private static final int MOST_FORGED = 1500, MOST_HOPS = 20, MOST_SEED = 255, MOST_TICKS = 500, LONGEST_FORECAST = 1000;
    private static final int STAYS = 0, REPLACES = 1, REFUSES = 2;
    private static final int NO_HOPS = 1, NO_ROUTE = 2, UNCUT = 3, LOST = 4, CROWDED = 5, MISFIT = 6, LATE = 7;
    private static final int SUM_BASE = 65521;
    private static final int MOST_CHARACTERS = 80, MOST_IN_ORDER = 4999, ORDER_SEED = 255;
    private static final int HISTORY = 6, SLOTS = 2;

    private final World live = new World();
    /** Lent to the forecasts, which let ticks pass in it. */
    private final World forecast = new World();
    private final History history = new History();
    private final World[] slots = new World[SLOTS];
    private final boolean[] saved = new boolean[SLOTS];
    private final Pad pad = new Pad();

    public StubbornBridges() {
        for (int i = 0; i < SLOTS; i++) slots[i] = new World();
    }

    // ---- setting up

    public int node(int node, int way, int timeOut, int space) {
        Node changed = live.nodeAt(node);
        if (changed == null) return NO_SUCH;
        if (!isWithin(way, STAYS, REFUSES) || !isWithin(timeOut, 1, 500) || !isWithin(space, 64, 20000)) return BAD_VALUE;
        history.keep(live);
        int previous = changed.way;
        changed.way = way;
        changed.timeOut = timeOut;
        changed.space = space;
        return previous;
    }

    public int bridge(int from, int to, int room, int delay, int pace) {
        if (!isPair(from, to)) return NO_SUCH;
        if (!isRoom(room) || !isWithin(delay, 1, 50) || !isWithin(pace, 1, 1000)) return BAD_VALUE;
        if (live.bridgeCount >= MOST_BRIDGES) return TOO_MANY;
        history.keep(live);
        Bridge added = live.bridges[live.bridgeCount];
        added.from = from;
        added.to = to;
        added.room = room;
        added.delay = delay;
        added.pace = pace;
        live.bridgeCount++;
        return live.bridgeCount - 1;
    }

    public int mend(int bridge, int room, int turns) {
        Bridge mended = live.bridgeAt(bridge);
        if (mended == null) return NO_SUCH;
        if (!isRoom(room) || !isWithin(turns, 0, 99)) return BAD_VALUE;
        history.keep(live);
        int previous = mended.room;
        mended.room = room;
        mended.turns = turns;
        mended.came = 0;
        return previous;
    }

    public int route(int node, int to, int bridge) {
        Node changed = live.nodeAt(node);
        if (changed == null || !isPair(node, to)) return NO_SUCH;
        Bridge chosen = live.bridgeAt(bridge);
        if (chosen == null && bridge != NONE) return NO_SUCH;
        if (chosen != null && chosen.from != node) return NOT_POSSIBLE;
        history.keep(live);
        int previous = changed.routes[to];
        changed.routes[to] = bridge;
        return previous;
    }

    // ---- parcels

    public int send(int from, int to, int size, int seed, int how) {
        return live.sendParcel(from, to, size, seed, how, history);
    }

    public int resend(int parcel) {
        return live.sendAgain(parcel, history);
    }

    public int forge(int parcel, int offset, int length, int last, int seed) {
        return live.forgeSlice(parcel, offset, length, last, seed, history);
    }

    public int ticks(int ticks) {
        if (!isTicks(ticks)) return BAD_VALUE;
        history.keep(live);
        live.pass(ticks);
        return live.tick;
    }

    // ---- what there is

    public int ofNode(int node, int what) {
        Node asked = live.nodeAt(node);
        if (asked == null) return NO_SUCH;
        if (what == 3) return live.bytesAtNode(node);
        if (what == 4) return live.parcelsAtNode(node);
        return asked.tell(what);
    }

    public int ofBridge(int bridge, int what) {
        Bridge asked = live.bridgeAt(bridge);
        return asked == null ? NO_SUCH : asked.tell(what);
    }

    public int ofParcel(int parcel, int what) {
        Parcel asked = live.parcelAt(parcel);
        if (asked == null) return NO_SUCH;
        return what == 7 ? live.slicesUnderWay(parcel) : asked.tell(what);
    }

    public int byteAt(int parcel, int at) {
        Parcel asked = live.parcelAt(parcel);
        if (asked == null) return NO_SUCH;
        if (!isWithin(at, 0, MOST_BYTES - 1)) return BAD_VALUE;
        return asked.hasByte(at) ? asked.cell(at) - 1 : NONE;
    }

    public int count(int what) {
        if (what == 7) return pad.length;
        if (what == 8) return history.kept;
        return live.tell(what);
    }

    // ---- what if; nothing changes

    public int leastRoom(int from, int to) {
        if (!isPair(from, to)) return NO_SUCH;
        int bridges = live.findPath(from, to);
        if (bridges == NONE) return NONE;
        int least = MOST_ROOM;
        for (int i = 0; i < bridges && i < live.path.length; i++) {
            Bridge bridge = live.path[i];
            if (bridge != null) least = Math.min(least, bridge.room);
        }
        return least;
    }

    public int slices(int from, int to, int size) {
        if (!isPair(from, to)) return NO_SUCH;
        if (!isWithin(size, 1, MOST_BYTES)) return BAD_VALUE;
        int bridges = live.findPath(from, to);
        return bridges == NONE ? NONE : slicesBehind(live.path, 0, bridges, size);
    }

    public int time(int from, int to, int size) {
        if (!isPair(from, to)) return NO_SUCH;
        if (!isWithin(size, 1, MOST_BYTES)) return BAD_VALUE;
        int bridges = live.findPath(from, to);
        return bridges == NONE ? NONE : ticksBehind(live.path, 0, bridges, size);
    }

    public int stateIn(int parcel, int ticks) {
        Parcel asked = live.parcelAt(parcel);
        if (asked == null) return NO_SUCH;
        if (!isTicks(ticks)) return BAD_VALUE;
        // A state that is not ON_ITS_WAY never becomes another one.
        if (asked.state != ON_ITS_WAY) return asked.state;
        Parcel then = foresee(parcel, ticks);
        return then == null ? NO_SUCH : then.state;
    }

    public int doneIn(int parcel) {
        Parcel asked = live.parcelAt(parcel);
        if (asked == null) return NO_SUCH;
        if (asked.state != ON_ITS_WAY) return 0;
        Parcel then = foresee(parcel, LONGEST_FORECAST);
        return then == null || then.state == ON_ITS_WAY ? NONE : then.doneAt - live.tick + 1;
    }

    public int gap(int parcel, int what) {
        Parcel asked = live.parcelAt(parcel);
        if (asked == null) return NO_SUCH;
        if (!isWithin(what, 0, 1)) return BAD_VALUE;
        if (asked.there == 0) return NONE;
        return what == 0 ? asked.firstMissing() : asked.lengthOfGap();
    }

    // ---- texts

    public int put(long characters) {
        return pad.append(characters);
    }

    public int wipe() {
        int had = pad.length;
        pad.length = 0;
        return had;
    }

    public int fault() {
        return pad.findFault();
    }

    public int carryOut() {
        if (pad.findFault() != NONE) return BAD_TEXT;
        history.keep(live);
        int done = 0;
        pad.at = 0;
        // An order has two characters at least, so the orders are fewer than the characters.
        for (int i = 0; i < pad.length && pad.at < pad.length; i++) {
            if (!pad.readOrder() || !live.obey(pad)) break;
            done++;
        }
        pad.length = 0;
        return done;
    }

    // ---- undo, saving

    public int undo() {
        return history.bringBack(live) ? history.kept : NOT_POSSIBLE;
    }

    public int save(int slot) {
        if (!isWithin(slot, 0, SLOTS - 1)) return BAD_VALUE;
        slots[slot].copyFrom(live);
        saved[slot] = true;
        return live.tick;
    }

    public int restore(int slot) {
        if (!isWithin(slot, 0, SLOTS - 1)) return BAD_VALUE;
        if (!saved[slot]) return NOT_POSSIBLE;
        history.keep(live);
        live.copyFrom(slots[slot]);
        return live.tick;
    }

    // ---- helpers

    private static boolean isWithin(int value, int least, int most) {
        return value >= least && value <= most;
    }

    private static boolean isPair(int from, int to) {
        return isWithin(from, 0, NODES - 1) && isWithin(to, 0, NODES - 1) && from != to;
    }

    private static boolean isRoom(int room) {
        return isWithin(room, LEAST_ROOM, MOST_ROOM);
    }

    private static boolean isTicks(int ticks) {
        return isWithin(ticks, 1, MOST_TICKS);
    }

    /** The byte of a parcel, or of a forged slice, counted from the beginning of the parcel. */
    private static int byteOf(int seed, int at) {
        return (seed * 31 + at * 7 + at / 256) & 255;
    }

    /** The parcel as it will be if nothing else is done; null if there is no such parcel. */
    private Parcel foresee(int parcel, int ticks) {
        forecast.copyFrom(live);
        forecast.pass(ticks);
        return forecast.parcelAt(parcel);
    }

    /** How many slices come out behind the bridges first..end-1; the depth is at most the number of nodes. */
    private static int slicesBehind(Bridge[] path, int first, int end, int length) {
        Bridge bridge = first < end && first < path.length ? path[first] : null;
        if (bridge == null) return 1;
        int full = bridge.fullPieces(length);
        if (full == 0) return slicesBehind(path, first + 1, end, length);
        int piece = bridge.longestPiece();
        int behindRest = slicesBehind(path, first + 1, end, length - full * piece);
        return full * slicesBehind(path, first + 1, end, piece) + behindRest;
    }

    /** After how many ticks the latest slice is behind the bridges; the depth is at most the number of nodes. */
    private static int ticksBehind(Bridge[] path, int first, int end, int length) {
        Bridge bridge = first < end && first < path.length ? path[first] : null;
        if (bridge == null) return 0;
        int full = bridge.fullPieces(length);
        int piece = bridge.longestPiece();
        int rest = length - full * piece;
        int latest = bridge.ticksFor(rest) + ticksBehind(path, first + 1, end, rest);
        if (full == 0) return latest;
        return Math.max(latest, bridge.ticksFor(piece) + ticksBehind(path, first + 1, end, piece));
    }

    /** All that undo, saved states and forecasts copy. */
    private static final class World {
        int tick, bridgeCount, parcelCount;
        final Node[] nodes = new Node[NODES];
        final Bridge[] bridges = new Bridge[MOST_BRIDGES];
        final Parcel[] parcels = new Parcel[MOST_PARCELS];
        /**
         * The slices under way, in the order in which they were made. Within a tick those that are gone stand here
         * too, so that there is place for as many new ones, and for one that is dropped before it goes on.
         */
        final Slice[] slices = new Slice[2 * MOST_SLICES + 1];
        int listed, underWay;
        int made, cut, joined;
        final int[] dropped = new int[LATE + 1];
        /** The bridges that findPath() found. */
        final Bridge[] path = new Bridge[NODES];

        World() {
            for (int i = 0; i < nodes.length; i++) nodes[i] = new Node();
            for (int i = 0; i < bridges.length; i++) bridges[i] = new Bridge();
            for (int i = 0; i < parcels.length; i++) parcels[i] = new Parcel();
            for (int i = 0; i < slices.length; i++) slices[i] = new Slice();
        }

        /** Copies all rows, so that the bridges and parcels that there are not stay as new ones. */
        void copyFrom(World other) {
            tick = other.tick;
            bridgeCount = other.bridgeCount;
            parcelCount = other.parcelCount;
            listed = other.listed;
            underWay = other.underWay;
            made = other.made;
            cut = other.cut;
            joined = other.joined;
            System.arraycopy(other.dropped, 0, dropped, 0, dropped.length);
            for (int i = 0; i < nodes.length; i++) nodes[i].copyFrom(other.nodes[i]);
            for (int i = 0; i < bridges.length; i++) bridges[i].copyFrom(other.bridges[i]);
            for (int i = 0; i < parcels.length; i++) parcels[i].copyFrom(other.parcels[i]);
            for (int i = 0; i < listed; i++) slices[i].copyFrom(other.slices[i]);
        }

        Node nodeAt(int node) {
            return isWithin(node, 0, nodes.length - 1) ? nodes[node] : null;
        }

        Bridge bridgeAt(int bridge) {
            return isWithin(bridge, 0, bridgeCount - 1) ? bridges[bridge] : null;
        }

        Parcel parcelAt(int parcel) {
            return isWithin(parcel, 0, parcelCount - 1) ? parcels[parcel] : null;
        }

        // ---- sending and forging: a recorder keeps the state before them; the orders of a text have none

        int sendParcel(int from, int to, int size, int seed, int how, History recorder) {
            if (!isPair(from, to)) return NO_SUCH;
            if (!isWithin(size, 1, MOST_BYTES) || !isWithin(seed, 0, MOST_SEED)) return BAD_VALUE;
            if (!isWithin(how, 2, 2 * MOST_HOPS + 1)) return BAD_VALUE;
            Slice slice = freeSlice();
            if (slice == null || parcelCount >= parcels.length) return TOO_MANY;
            keepIn(recorder);
            int number = parcelCount;
            parcels[number].begin(from, to, size, seed, how);
            parcelCount++;
            launch(slice, number, parcels[number]);
            return number;
        }

        /** Answers how often the parcel has been sent. */
        int sendAgain(int number, History recorder) {
            Parcel parcel = parcelAt(number);
            if (parcel == null) return NO_SUCH;
            Slice slice = freeSlice();
            if (slice == null) return TOO_MANY;
            if (parcel.state != ON_ITS_WAY) return NOT_POSSIBLE;
            keepIn(recorder);
            launch(slice, number, parcel);
            return parcel.times;
        }

        /** Answers how many slices are under way then. */
        int forgeSlice(int number, int offset, int length, int last, int seed, History recorder) {
            Parcel parcel = parcelAt(number);
            if (parcel == null) return NO_SUCH;
            if (!isWithin(offset, 0, MOST_BYTES - 1) || !isWithin(length, 1, MOST_FORGED)) return BAD_VALUE;
            if (!isWithin(last, 0, 1) || !isWithin(seed, 0, MOST_SEED)) return BAD_VALUE;
            Slice slice = freeSlice();
            if (slice == null) return TOO_MANY;
            keepIn(recorder);
            slice.begin(number, seed, 0);
            slice.span(offset, length, last == 1);
            slice.arrive(parcel.to, tick);
            countNew();
            return underWay;
        }

        private void keepIn(History recorder) {
            if (recorder != null) recorder.keep(this);
        }

        /** Sends all of a parcel in one slice. */
        private void launch(Slice slice, int number, Parcel parcel) {
            slice.begin(number, parcel.seed, parcel.hops);
            slice.span(0, parcel.size, true);
            slice.arrive(parcel.from, tick);
            countNew();
            parcel.times++;
        }

        /** The place for one more slice under way; null if there are 300. */
        private Slice freeSlice() {
            return isFull() || listed >= slices.length ? null : slices[listed];
        }

        private boolean isFull() {
            return underWay >= MOST_SLICES;
        }

        private void countNew() {
            listed++;
            underWay++;
            made++;
        }

        /** Carries out the order that was read last; tells whether it returned no error. */
        boolean obey(Pad order) {
            int a = order.numbers[0], b = order.numbers[1], c = order.numbers[2];
            if (order.kind == 's') return sendParcel(a, b, c, 0, order.how(), null) >= 0;
            if (order.kind == 'r') return sendAgain(a, null) >= 0;
            if (order.kind == 'f') return forgeSlice(a, b, c, order.last(), ORDER_SEED, null) >= 0;
            if (!isTicks(a)) return false;
            pass(a);
            return true;
        }

        // ---- ticks

        void pass(int ticks) {
            int end = tick + ticks;
            for (int i = 0; i < ticks; i++) {
                tick = nextEvent(end);
                if (tick >= end) return;
                int before = listed;
                for (int k = 0; k < before; k++) {
                    if (slices[k].tick == tick) treat(slices[k]);
                }
                closeRanks();
                giveUpOverdue();
                tick++;
            }
        }

        /** The next tick in which something happens, or the end: nothing changes in the ticks before it. */
        private int nextEvent(int end) {
            int next = end;
            for (int i = 0; i < listed; i++) next = Math.min(next, slices[i].tick);
            for (Parcel parcel : parcels) {
                if (parcel.there > 0) next = Math.min(next, overdueAt(parcel));
            }
            return Math.max(tick, next);
        }

        /** The first tick in which a parcel of which bytes are there has timed out. */
        private int overdueAt(Parcel parcel) {
            Node node = nodeAt(parcel.to);
            return parcel.firstPut + (node == null ? 0 : node.timeOut);
        }

        private void treat(Slice slice) {
            Parcel parcel = parcelAt(slice.parcel);
            Node node = nodeAt(slice.node);
            if (parcel == null || node == null) return;
            Bridge bridge = bridgeAt(node.routeTo(parcel.to));
            underWay--;
            if (slice.node == parcel.to) {
                join(slice, parcel, node);
            } else if (slice.hops <= 0) {
                drop(slice, parcel, NO_HOPS);
            } else if (bridge == null) {
                drop(slice, parcel, NO_ROUTE);
            } else if (bridge.bears(slice.length)) {
                goOn(slice, parcel, bridge);
            } else if (parcel.mayBeCut) {
                cutUp(slice, parcel, bridge);
            } else {
                drop(slice, parcel, UNCUT);
            }
        }

        private void cutUp(Slice slice, Parcel parcel, Bridge bridge) {
            int end = slice.offset + slice.length;
            int piece = bridge.longestPiece();
            int full = bridge.fullPieces(slice.length);
            cut++;
            slice.gone = true;
            for (int i = 0; i <= full && listed < slices.length; i++) {
                Slice part = slices[listed];
                int offset = slice.offset + i * piece;
                part.copyFrom(slice);
                part.span(offset, i < full ? piece : end - offset, slice.last && i == full);
                made++;
                goOn(part, parcel, bridge);
                if (!part.gone) listed++;
            }
        }

        /** Lets a slice that is not counted as under way go over a bridge, or drops it. */
        private void goOn(Slice slice, Parcel parcel, Bridge bridge) {
            if (isFull()) {
                drop(slice, parcel, CROWDED);
            } else if (bridge.loses()) {
                drop(slice, parcel, LOST);
            } else {
                bridge.carried += slice.length + HEAD;
                slice.hops--;
                slice.arrive(bridge.to, tick + bridge.ticksFor(slice.length));
                underWay++;
            }
        }

        private void drop(Slice slice, Parcel parcel, int reason) {
            slice.gone = true;
            dropped[reason]++;
            parcel.lost++;
        }

        /** Puts a slice to the others of its parcel, at the node to which that goes. */
        private void join(Slice slice, Parcel parcel, Node node) {
            if (parcel.state != ON_ITS_WAY) {
                drop(slice, parcel, LATE);
                return;
            }
            if (!parcel.fits(slice)) {
                drop(slice, parcel, MISFIT);
                return;
            }
            slice.gone = true;
            joined++;
            if (node.way == REFUSES && parcel.overlaps(slice)) {
                parcel.end(REFUSED, tick);
            } else {
                parcel.lay(slice, node.way == REPLACES, tick);
            }
            keepToSpace(parcel.to, node.space);
            if (parcel.isComplete()) parcel.end(parcel.isAsSent() ? WHOLE : BROKEN, tick);
        }

        private void keepToSpace(int node, int space) {
            for (int i = 0; i < MOST_PARCELS && bytesAtNode(node) > space; i++) {
                Parcel eldest = eldestAtNode(node);
                if (eldest == null) return;
                eldest.end(EVICTED, tick);
            }
        }

        private Parcel eldestAtNode(int node) {
            Parcel eldest = null;
            for (Parcel parcel : parcels) {
                boolean isHere = parcel.there > 0 && parcel.to == node;
                if (isHere && (eldest == null || parcel.firstPut < eldest.firstPut)) eldest = parcel;
            }
            return eldest;
        }

        private void giveUpOverdue() {
            for (Parcel parcel : parcels) {
                if (parcel.there > 0 && tick >= overdueAt(parcel)) parcel.end(TIMED_OUT, tick);
            }
        }

        /** Moves the slices that are gone behind the others, whose order stays. */
        private void closeRanks() {
            int kept = 0;
            for (int i = 0; i < listed; i++) {
                Slice slice = slices[i];
                if (slice.gone) continue;
                slices[i] = slices[kept];
                slices[kept] = slice;
                kept++;
            }
            listed = kept;
        }

        // ---- what there is

        int bytesAtNode(int node) {
            int bytes = 0;
            for (Parcel parcel : parcels) {
                if (parcel.to == node) bytes += parcel.there;
            }
            return bytes;
        }

        int parcelsAtNode(int node) {
            int found = 0;
            for (Parcel parcel : parcels) {
                if (parcel.to == node && parcel.there > 0) found++;
            }
            return found;
        }

        int slicesUnderWay(int parcel) {
            int found = 0;
            for (int i = 0; i < listed; i++) {
                if (slices[i].parcel == parcel) found++;
            }
            return found;
        }

        int tell(int what) {
            switch (what) {
                case 0: return tick;
                case 1: return bridgeCount;
                case 2: return parcelCount;
                case 3: return underWay;
                case 4: return made;
                case 5: return cut;
                case 6: return joined;
                case 9: return nextArrival();
                default: break;
            }
            if (isWithin(what, 10 + NO_HOPS, 10 + LATE)) return dropped[what - 10];
            return isWithin(what, 20 + ON_ITS_WAY, 20 + REFUSED) ? parcelsInState(what - 20) : BAD_VALUE;
        }

        private int nextArrival() {
            if (listed == 0) return NONE;
            int next = slices[0].tick;
            for (int i = 1; i < listed; i++) next = Math.min(next, slices[i].tick);
            return next;
        }

        private int parcelsInState(int state) {
            int found = 0;
            for (int i = 0; i < parcelCount; i++) {
                if (parcels[i].state == state) found++;
            }
            return found;
        }

        /** Walks along the routes, keeps the bridges in path, and answers how many they are, or NONE. */
        int findPath(int from, int to) {
            int at = from;
            for (int i = 0; i < path.length; i++) {
                if (at == to) return i;
                Node node = nodeAt(at);
                Bridge bridge = node == null ? null : bridgeAt(node.routeTo(to));
                if (bridge == null) return NONE;
                path[i] = bridge;
                at = bridge.to;
            }
            return NONE;
        }
    }

    private static final class Node {
        int way, timeOut = 60, space = 8000;
        final int[] routes = new int[NODES];

        Node() {
            for (int i = 0; i < NODES; i++) routes[i] = NONE;
        }

        void copyFrom(Node other) {
            way = other.way;
            timeOut = other.timeOut;
            space = other.space;
            System.arraycopy(other.routes, 0, routes, 0, NODES);
        }

        int tell(int what) {
            if (what == 0) return way;
            if (what == 1) return timeOut;
            if (what == 2) return space;
            return isWithin(what, 10, 10 + NODES - 1) ? routeTo(what - 10) : BAD_VALUE;
        }

        int routeTo(int node) {
            return isWithin(node, 0, routes.length - 1) ? routes[node] : NONE;
        }
    }

    private static final class Bridge {
        int from, to, room, delay, pace, turns;
        int came, lost, carried;

        void copyFrom(Bridge other) {
            from = other.from;
            to = other.to;
            room = other.room;
            delay = other.delay;
            pace = other.pace;
            turns = other.turns;
            came = other.came;
            lost = other.lost;
            carried = other.carried;
        }

        boolean bears(int length) {
            return length + HEAD <= room;
        }

        int longestPiece() {
            return Math.max(8, (room - HEAD) / 8 * 8);
        }

        /** How many of the longest pieces are cut off a slice before what is left. */
        int fullPieces(int length) {
            return bears(length) ? 0 : (length - 1) / longestPiece();
        }

        int ticksFor(int length) {
            return delay + (length + HEAD) / Math.max(1, pace);
        }

        /** Counts a slice that comes to the bridge, and tells whether it is its turn to be lost. */
        boolean loses() {
            came++;
            if (turns <= 0 || came % turns != 0) return false;
            lost++;
            return true;
        }

        int tell(int what) {
            switch (what) {
                case 0: return from;
                case 1: return to;
                case 2: return room;
                case 3: return delay;
                case 4: return pace;
                case 5: return turns;
                case 6: return came;
                case 7: return lost;
                case 8: return carried;
                default: return BAD_VALUE;
            }
        }
    }

    private static final class Parcel {
        /** A cell has 9 bits: 0 if the byte is not there, otherwise the byte and 1; a long holds 7 of them. */
        private static final int CELL_BITS = 9, CELLS_IN_LONG = 7;
        private static final long CELL_MASK = 511L;

        int from, to, size, seed, hops, sum;
        boolean mayBeCut;
        int state, times, lost;
        int doneAt = NONE;
        /** How many bytes are there; if there are none, firstPut and the cells hold nothing of use. */
        int there;
        int firstPut, furthestEnd;
        int whole = NONE;
        final long[] cells = new long[MOST_BYTES / CELLS_IN_LONG + 1];

        void begin(int start, int end, int newSize, int newSeed, int how) {
            from = start;
            to = end;
            size = newSize;
            seed = newSeed;
            hops = how / 2;
            mayBeCut = how % 2 == 1;
            int total = 0;
            for (int at = 0; at < size; at++) total += byteOf(seed, at);
            sum = total % SUM_BASE;
        }

        void copyFrom(Parcel other) {
            from = other.from;
            to = other.to;
            size = other.size;
            seed = other.seed;
            hops = other.hops;
            sum = other.sum;
            mayBeCut = other.mayBeCut;
            state = other.state;
            times = other.times;
            lost = other.lost;
            doneAt = other.doneAt;
            there = other.there;
            firstPut = other.firstPut;
            furthestEnd = other.furthestEnd;
            whole = other.whole;
            if (there > 0) System.arraycopy(other.cells, 0, cells, 0, cells.length);
        }

        int cell(int at) {
            if (at < 0 || at >= MOST_BYTES) return 0;
            return (int) (cells[at / CELLS_IN_LONG] >>> at % CELLS_IN_LONG * CELL_BITS & CELL_MASK);
        }

        private void setCell(int at, int cell) {
            if (at < 0 || at >= MOST_BYTES) return;
            int index = at / CELLS_IN_LONG, shift = at % CELLS_IN_LONG * CELL_BITS;
            cells[index] = cells[index] & ~(CELL_MASK << shift) | (long) cell << shift;
        }

        boolean hasByte(int at) {
            return there > 0 && cell(at) != 0;
        }

        boolean fits(Slice slice) {
            int end = slice.offset + slice.length;
            if (end > MOST_BYTES) return false;
            if (whole != NONE && (end > whole || slice.last && end != whole)) return false;
            return !slice.last || furthestEnd <= end;
        }

        boolean overlaps(Slice slice) {
            int end = slice.offset + slice.length;
            for (int at = slice.offset; at < end; at++) {
                if (hasByte(at)) return true;
            }
            return false;
        }

        /** Puts the bytes of a slice that fits. */
        void lay(Slice slice, boolean replaces, int tick) {
            if (there == 0) {
                firstPut = tick;
                // A copy takes cells over only if some are in use.
                for (int i = 0; i < cells.length; i++) cells[i] = 0L;
            }
            int end = slice.offset + slice.length;
            for (int at = slice.offset; at < end; at++) {
                boolean isEmpty = cell(at) == 0;
                if (isEmpty) there++;
                if (isEmpty || replaces) setCell(at, byteOf(slice.seed, at) + 1);
            }
            furthestEnd = Math.max(furthestEnd, end);
            if (slice.last) whole = end;
        }

        void end(int newState, int tick) {
            state = newState;
            doneAt = tick;
            there = 0;
        }

        boolean isComplete() {
            return there == whole;
        }

        /** Of a complete parcel. */
        boolean isAsSent() {
            int found = 0;
            for (int at = 0; at < whole; at++) found += cell(at) - 1;
            return found % SUM_BASE == sum && whole == size;
        }

        /** Of a parcel of which bytes are there. */
        int firstMissing() {
            int at = 0;
            while (at < MOST_BYTES && hasByte(at)) at++;
            return at;
        }

        /** Of a parcel of which bytes are there. */
        int lengthOfGap() {
            int start = firstMissing();
            int next = start;
            while (next < furthestEnd && !hasByte(next)) next++;
            if (next < furthestEnd) return next - start;
            return whole == NONE ? NONE : whole - start;
        }

        int tell(int what) {
            switch (what) {
                case 0: return from;
                case 1: return to;
                case 2: return size;
                case 3: return seed;
                case 4: return mayBeCut ? 1 : 0;
                case 5: return state;
                case 6: return times;
                case 8: return there;
                case 9: return there == 0 ? NONE : whole;
                case 10: return there == 0 ? 0 : firstMissing();
                case 11: return doneAt;
                case 12: return sum;
                case 13: return lost;
                default: return BAD_VALUE;
            }
        }
    }

    private static final class Slice {
        int parcel, offset, length, hops, seed;
        boolean last;
        /** Where and when it arrives. */
        int node, tick;
        /** Put, dropped or cut in this tick. */
        boolean gone;

        void begin(int number, int newSeed, int newHops) {
            parcel = number;
            seed = newSeed;
            hops = newHops;
        }

        void span(int newOffset, int newLength, boolean isLast) {
            offset = newOffset;
            length = newLength;
            last = isLast;
        }

        void arrive(int newNode, int newTick) {
            node = newNode;
            tick = newTick;
            gone = false;
        }

        void copyFrom(Slice other) {
            parcel = other.parcel;
            offset = other.offset;
            length = other.length;
            hops = other.hops;
            seed = other.seed;
            last = other.last;
            node = other.node;
            tick = other.tick;
            gone = other.gone;
        }
    }

    /** The latest states, in a ring whose worlds are used again. */
    private static final class History {
        final World[] states = new World[HISTORY];
        int oldest, kept;

        History() {
            for (int i = 0; i < HISTORY; i++) states[i] = new World();
        }

        void keep(World world) {
            stateAt(kept).copyFrom(world);
            if (kept < HISTORY) {
                kept++;
            } else {
                oldest = (oldest + 1) % HISTORY;
            }
        }

        /** Tells whether a state was kept. */
        boolean bringBack(World world) {
            if (kept <= 0) return false;
            kept--;
            world.copyFrom(stateAt(kept));
            return true;
        }

        /** Counted from the oldest one; behind the latest one, if all are kept, the oldest one comes again. */
        private World stateAt(int index) {
            return states[Math.floorMod(oldest + index, HISTORY)];
        }
    }

    /** The text, and what reads its orders from left to right. */
    private static final class Pad {
        final char[] text = new char[MOST_CHARACTERS];
        int length;
        /** The character that is read next; where reading cannot go on stands the fault. */
        int at;
        /** What the order holds that was read last. */
        char kind;
        final int[] numbers = new int[3];
        boolean marked;

        /** How many characters a number gives; 0 if it must not be appended. */
        private static int charactersIn(long characters) {
            int found = 0;
            long rest = characters;
            for (int i = 0; i < 8 && rest != 0L; i++) {
                if (!isWithin((int) (rest & 255L), 33, 126)) return 0;
                rest >>>= 8;
                found++;
            }
            return found;
        }

        /** Answers the length then, or an error. */
        int append(long characters) {
            int more = charactersIn(characters);
            if (more == 0) return BAD_VALUE;
            if (length + more > text.length) return TOO_MANY;
            for (int i = more - 1; i >= 0; i--) {
                text[length] = (char) (characters >>> 8 * i & 255L);
                length++;
            }
            return length;
        }

        /** As send() takes it. */
        int how() {
            return 2 * MOST_HOPS + (marked ? 0 : 1);
        }

        /** As forge() takes it. */
        int last() {
            return marked ? 1 : 0;
        }

        int findFault() {
            at = 0;
            for (int i = 0; i <= length; i++) {
                if (!readOrder()) return at;
                if (at >= length) return NONE;
            }
            return at;
        }

        /** Reads an order, and the semicolon before it if it is not the first one. */
        boolean readOrder() {
            if (at > 0 && !take(';')) return false;
            kind = here();
            if (kind == 's') {
                at++;
                return readNode(0) && take('>') && readNode(1) && take('*') && readNumber(2) && readMark('!');
            }
            if (kind == 'f') {
                at++;
                return readNumber(0) && take('+') && readNumber(1) && take('*') && readNumber(2) && readMark('.');
            }
            if (kind != 'r' && kind != 't') return false;
            at++;
            return readNumber(0);
        }

        /** The character that is next; 0, which no pad holds, behind the last one. */
        private char here() {
            return at < length ? text[at] : (char) 0;
        }

        private boolean take(char due) {
            if (here() != due) return false;
            at++;
            return true;
        }

        private boolean readNode(int index) {
            int digit = here() - '0';
            if (!isWithin(digit, 0, NODES - 1)) return false;
            numbers[index] = digit;
            at++;
            return true;
        }

        /** Stops before a digit that would make the number too great, or follow a leading zero: nothing takes it. */
        private boolean readNumber(int index) {
            int start = at, value = 0;
            while (at < length) {
                int digit = here() - '0';
                boolean isLeadingZero = at > start && value == 0;
                if (!isWithin(digit, 0, 9) || isLeadingZero || value * 10 + digit > MOST_IN_ORDER) break;
                value = value * 10 + digit;
                at++;
            }
            numbers[index] = value;
            return at > start;
        }

        private boolean readMark(char mark) {
            marked = take(mark);
            return true;
        }
    }
}

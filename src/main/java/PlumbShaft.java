/**
 * Plumb wires down a shaft: their sway, the currents that bend them, the stations that observe them,
 * and the orientations that two pairs of wires give.
 */
public final class PlumbShaft {
    public static final int UNKNOWN = -100001;
    public static final int BAD_VALUE = -100002;
    public static final int REFUSED = -100003;
    public static final int FULL = -100004;
    public static final int NONE = -100005;

    private static final int NO_ERROR = 0;
    private static final int NO_REASON = 0;
    private static final int NOT_HUNG = 1;
    private static final int TOO_DEEP = 2;
    private static final int NOT_OBSERVED = 3;
    private static final int SAME_PLACE = 4;
    private static final int NO_AGREEMENT = 5;

    private static final int WIRES = 4;
    private static final int PAIRS = 2;
    private static final int MOST_CURRENTS = 5;
    private static final int MOST_STATIONS = 5;
    private static final int MOST_STATES = 5;
    private static final int SLOTS = 2;
    private static final int MOST_TEXT = 70;
    private static final int MOST_TICKS = 60;

    private static final int FARTHEST = 5000;
    private static final int HEAVIEST = 200;
    private static final int SHORTEST_WIRE = 10;
    private static final int DEEPEST = 800;
    private static final int MOST_CLAMP_ERROR = 20;
    private static final int BUCKETS = 3;
    private static final int DIRECTIONS = 8;
    private static final int MOST_AMPLITUDE = 500;
    private static final int MOST_FORCE = 50;
    private static final int MOST_TOLERANCE = 500;
    private static final int MOST_BEARING_SIDE = 20000;
    private static final int CIRCLE = 8000;

    private static final int X_AXIS = 0;
    private static final int Y_AXIS = 1;
    private static final int[] DIRECTION_X = {1, 1, 0, -1, -1, -1, 0, 1};
    private static final int[] DIRECTION_Y = {0, 1, 1, 1, 0, -1, -1, -1};

    private static final int WAIT = 0;
    private static final int PUSH = 1;
    private static final int LOOK = 2;
    private static final int SWAP = 3;
    private static final int ORIENT = 4;
    private static final int ORDER_WORDS = 5;
    private static final int NO_WORD = -1;
    private static final int NO_NUMBER = -1;
    private static final int MOST_NUMBERS = 3;
    private static final int MOST_DIGITS = 3;
    // An order with the ";" behind it takes 7 characters at the least.
    private static final int MOST_ORDERS = 1 + MOST_TEXT / 7;
    private static final int NO_FAULT = -1;

    private final State now;
    private final State[] history;
    private int historyLength;
    private final State[] slots;
    private final boolean[] slotTaken;
    private final OrderText orders;
    private boolean runningOrders;
    private int reason;

    public PlumbShaft() {
        now = new State();
        history = new State[MOST_STATES];
        for (int i = 0; i < MOST_STATES; i++) {
            history[i] = new State();
        }
        slots = new State[SLOTS];
        for (int i = 0; i < SLOTS; i++) {
            slots[i] = new State();
        }
        slotTaken = new boolean[SLOTS];
        orders = new OrderText();
        reason = NO_REASON;
    }

    // ---- wires and currents

    public int hang(int wire, int x, int y, int mass, int depth) {
        if (!isWire(wire)) {
            return UNKNOWN;
        }
        if (!isWithin(x, -FARTHEST, FARTHEST) || !isWithin(y, -FARTHEST, FARTHEST)
                || !isWithin(mass, 1, HEAVIEST) || !isWithin(depth, SHORTEST_WIRE, DEEPEST)) {
            return BAD_VALUE;
        }
        remember();
        now.wires[wire].hangAnew(x, y, mass, depth);
        now.voidWire(wire);
        return now.hungWires();
    }

    public int lift(int wire) {
        if (!isWire(wire)) {
            return UNKNOWN;
        }
        if (!isHung(wire)) {
            return refuse(NOT_HUNG);
        }
        remember();
        now.wires[wire].hung = false;
        now.voidWire(wire);
        return now.hungWires();
    }

    public int setClamp(int wire, int ex, int ey) {
        if (!isWire(wire)) {
            return UNKNOWN;
        }
        if (!isWithin(ex, -MOST_CLAMP_ERROR, MOST_CLAMP_ERROR)
                || !isWithin(ey, -MOST_CLAMP_ERROR, MOST_CLAMP_ERROR)) {
            return BAD_VALUE;
        }
        if (!isHung(wire)) {
            return refuse(NOT_HUNG);
        }
        remember();
        Wire clamped = now.wires[wire];
        if (clamped.ex != ex || clamped.ey != ey) {
            clamped.ex = ex;
            clamped.ey = ey;
            now.voidWire(wire);
        }
        return Math.abs(ex) + Math.abs(ey);
    }

    public int setBucket(int wire, int bucket) {
        if (!isWire(wire)) {
            return UNKNOWN;
        }
        if (!isWithin(bucket, 0, BUCKETS - 1)) {
            return BAD_VALUE;
        }
        if (!isHung(wire)) {
            return refuse(NOT_HUNG);
        }
        remember();
        Wire damped = now.wires[wire];
        int previous = damped.bucket;
        if (previous != bucket) {
            damped.bucket = bucket;
            now.voidWire(wire);
        }
        return previous;
    }

    public int push(int wire, int direction, int amplitude) {
        if (!isWire(wire)) {
            return UNKNOWN;
        }
        if (!isWithin(direction, 0, DIRECTIONS - 1) || !isWithin(amplitude, 1, MOST_AMPLITUDE)) {
            return BAD_VALUE;
        }
        if (!isHung(wire)) {
            return refuse(NOT_HUNG);
        }
        remember();
        Wire pushed = now.wires[wire];
        pushed.direction = direction;
        pushed.startSway(amplitude);
        now.voidWire(wire);
        return pushed.periodTicks();
    }

    public int swap(int one, int other) {
        if (!isWire(one) || !isWire(other)) {
            return UNKNOWN;
        }
        if (one == other) {
            return BAD_VALUE;
        }
        if (!isHung(one) || !isHung(other)) {
            return refuse(NOT_HUNG);
        }
        remember();
        Wire first = now.wires[one];
        Wire second = now.wires[other];
        first.tradePlaces(second);
        first.startSway(0);
        second.startSway(0);
        return now.voidWire(one) + now.voidWire(other);
    }

    public int addCurrent(int a, int b, int fx, int fy) {
        if (!isWithin(a, 0, DEEPEST - 1) || !isWithin(b, a + 1, DEEPEST)
                || !isWithin(fx, -MOST_FORCE, MOST_FORCE) || !isWithin(fy, -MOST_FORCE, MOST_FORCE)) {
            return BAD_VALUE;
        }
        if (now.currentCount >= MOST_CURRENTS) {
            return FULL;
        }
        remember();
        now.currents[now.currentCount].become(a, b, fx, fy);
        now.currentCount++;
        now.voidAllWires();
        return now.currentCount;
    }

    public int clearCurrents() {
        int cleared = now.currentCount;
        if (cleared == 0) {
            return NONE;
        }
        remember();
        now.currentCount = 0;
        now.voidAllWires();
        return cleared;
    }

    // ---- stations, observing

    public int addStation(int depth, int frame) {
        if (!isWithin(depth, 1, DEEPEST) || !isWithin(frame, 0, CIRCLE - 1)) {
            return BAD_VALUE;
        }
        if (now.stationCount >= MOST_STATIONS) {
            return FULL;
        }
        remember();
        int number = now.stationCount;
        now.stations[number].become(depth, frame);
        now.stationCount++;
        return number;
    }

    public int setTolerance(int tolerance) {
        if (!isWithin(tolerance, 0, MOST_TOLERANCE)) {
            return BAD_VALUE;
        }
        remember();
        int previous = now.tolerance;
        now.tolerance = tolerance;
        return previous;
    }

    public int pass(int ticks) {
        if (!isWithin(ticks, 1, MOST_TICKS)) {
            return BAD_VALUE;
        }
        remember();
        for (int i = 0; i < ticks; i++) {
            now.passTick();
        }
        return now.time;
    }

    public int observe(int wire, int station, int ticks) {
        if (!isWire(wire) || !isStation(station)) {
            return UNKNOWN;
        }
        if (!isWithin(ticks, 1, MOST_TICKS)) {
            return BAD_VALUE;
        }
        if (!isHung(wire)) {
            return refuse(NOT_HUNG);
        }
        if (now.stations[station].depth > now.wires[wire].depth) {
            return refuse(TOO_DEEP);
        }
        remember();
        now.look(wire, station, ticks);
        return now.stations[station].seen[wire].spread;
    }

    public int orient(int station) {
        if (!isStation(station)) {
            return UNKNOWN;
        }
        int why = lowerReason(reasonAgainst(station, 0), reasonAgainst(station, 1));
        if (why != NO_REASON) {
            return refuse(why);
        }
        int first = orientationFrom(station, 0);
        int second = orientationFrom(station, 1);
        int difference = onCircle((long) second - first + CIRCLE / 2) - CIRCLE / 2;
        if (Math.abs(difference) > now.tolerance) {
            return refuse(NO_AGREEMENT);
        }
        remember();
        Station oriented = now.stations[station];
        oriented.orientation = onCircle((long) first + Math.floorDiv(difference, 2));
        oriented.hasOrientation = true;
        return oriented.orientation;
    }

    // ---- orders

    public int type(char character) {
        if (orders.length >= MOST_TEXT) {
            return FULL;
        }
        orders.append(character);
        return orders.length;
    }

    public int clearText() {
        int had = orders.length;
        orders.length = 0;
        return had;
    }

    public int runOrders() {
        int fault = orders.readOrders();
        if (fault != NO_FAULT) {
            return -100 - fault;
        }
        remember();
        runningOrders = true;
        int done = 0;
        while (done < orders.count && carryOut(done) >= 0) {
            done++;
        }
        runningOrders = false;
        return done;
    }

    /** Answers what the order's method does: an error is below 0, any other answer is not. */
    private int carryOut(int order) {
        int first = orders.numberOf(order, 0);
        int second = orders.numberOf(order, 1);
        int third = orders.numberOf(order, 2);
        switch (orders.words[order]) {
            case WAIT:
                return pass(first);
            case PUSH:
                return push(first, second, third);
            case LOOK:
                return observe(first, second, third);
            case SWAP:
                return swap(first, second);
            case ORIENT:
            default:
                return orient(first);
        }
    }

    // ---- history

    public int undo() {
        if (historyLength <= 0) {
            return NONE;
        }
        historyLength--;
        now.copyFrom(history[historyLength]);
        return historyLength;
    }

    public int keep(int slot) {
        if (!isSlot(slot)) {
            return UNKNOWN;
        }
        slots[slot].copyFrom(now);
        slotTaken[slot] = true;
        return now.time;
    }

    public int restore(int slot) {
        if (!isSlot(slot)) {
            return UNKNOWN;
        }
        if (!slotTaken[slot]) {
            return NONE;
        }
        remember();
        now.copyFrom(slots[slot]);
        return now.time;
    }

    /** Records the state before an act; the orders of a text are one act together, which runOrders records. */
    private void remember() {
        if (runningOrders) {
            return;
        }
        if (historyLength >= MOST_STATES) {
            dropOldestState();
        }
        history[historyLength].copyFrom(now);
        historyLength++;
    }

    private void dropOldestState() {
        State oldest = history[0];
        for (int i = 1; i < MOST_STATES; i++) {
            history[i - 1] = history[i];
        }
        history[MOST_STATES - 1] = oldest;
        historyLength = MOST_STATES - 1;
    }

    // ---- what is told

    public int wire(int wire, int what) {
        if (!isWire(wire)) {
            return UNKNOWN;
        }
        if (!isWithin(what, 0, 10)) {
            return BAD_VALUE;
        }
        if (!isHung(wire)) {
            return NONE;
        }
        return now.wires[wire].property(what);
    }

    public int rest(int wire, int depth, int axis) {
        int error = errorOfReading(wire, depth, axis);
        if (error != NO_ERROR) {
            return error;
        }
        return now.restAt(now.wires[wire], depth, axis);
    }

    public int position(int wire, int depth, int axis) {
        int error = errorOfReading(wire, depth, axis);
        if (error != NO_ERROR) {
            return error;
        }
        Wire read = now.wires[wire];
        return now.restAt(read, depth, axis) + read.swayAt(depth, axis);
    }

    public int calmIn(int wire, int limit) {
        if (!isWire(wire)) {
            return UNKNOWN;
        }
        if (!isWithin(limit, 0, MOST_AMPLITUDE)) {
            return BAD_VALUE;
        }
        if (!isHung(wire)) {
            return NONE;
        }
        return now.wires[wire].ticksUntilCalm(limit);
    }

    public int station(int station, int what) {
        if (!isStation(station)) {
            return UNKNOWN;
        }
        Station told = now.stations[station];
        switch (what) {
            case 0:
                return told.depth;
            case 1:
                return told.frame;
            case 2:
                return told.hasOrientation ? told.orientation : NONE;
            case 3:
                return told.validObservations();
            default:
                return BAD_VALUE;
        }
    }

    public int observation(int station, int wire, int what) {
        if (!isStation(station) || !isWire(wire)) {
            return UNKNOWN;
        }
        if (!isWithin(what, 0, 4)) {
            return BAD_VALUE;
        }
        Observation told = now.stations[station].seen[wire];
        if (!told.valid) {
            return NONE;
        }
        return told.property(what);
    }

    public int bearing(int dx, int dy) {
        if (!isWithin(dx, -MOST_BEARING_SIDE, MOST_BEARING_SIDE)
                || !isWithin(dy, -MOST_BEARING_SIDE, MOST_BEARING_SIDE)
                || (dx == 0 && dy == 0)) {
            return BAD_VALUE;
        }
        return bearingOf(dx, dy);
    }

    public int surface(int pair) {
        if (!isPair(pair)) {
            return UNKNOWN;
        }
        if (!isPairHung(pair) || isPairAtOnePlace(pair)) {
            return NONE;
        }
        return surfaceBearing(pair);
    }

    public int given(int station, int pair) {
        if (!isStation(station) || !isPair(pair)) {
            return UNKNOWN;
        }
        if (reasonAgainst(station, pair) != NO_REASON) {
            return NONE;
        }
        return orientationFrom(station, pair);
    }

    public int count(int what) {
        switch (what) {
            case 0:
                return now.time;
            case 1:
                return now.hungWires();
            case 2:
                return now.currentCount;
            case 3:
                return now.stationCount;
            case 4:
                return now.orientedStations();
            case 5:
                return now.validObservations();
            case 6:
                return now.tolerance;
            case 7:
                return now.observedTicks;
            case 8:
                return reason;
            case 9:
                return historyLength;
            case 10:
                return orders.length;
            default:
                return BAD_VALUE;
        }
    }

    // ---- checks

    private static boolean isWithin(int value, int lowest, int highest) {
        return value >= lowest && value <= highest;
    }

    private static boolean isWire(int wire) {
        return isWithin(wire, 0, WIRES - 1);
    }

    private static boolean isPair(int pair) {
        return isWithin(pair, 0, PAIRS - 1);
    }

    private static boolean isSlot(int slot) {
        return isWithin(slot, 0, SLOTS - 1);
    }

    private boolean isStation(int station) {
        return isWithin(station, 0, now.stationCount - 1);
    }

    private boolean isHung(int wire) {
        return now.wires[wire].hung;
    }

    private int refuse(int why) {
        reason = why;
        return REFUSED;
    }

    /** The error of asking where a wire is at a depth, or NO_ERROR. */
    private int errorOfReading(int wire, int depth, int axis) {
        if (!isWire(wire)) {
            return UNKNOWN;
        }
        if (!isWithin(depth, 0, DEEPEST) || !isWithin(axis, X_AXIS, Y_AXIS)) {
            return BAD_VALUE;
        }
        if (!isHung(wire) || depth > now.wires[wire].depth) {
            return NONE;
        }
        return NO_ERROR;
    }

    // ---- pairs of wires

    private Wire firstOf(int pair) {
        return now.wires[2 * pair];
    }

    private Wire secondOf(int pair) {
        return now.wires[2 * pair + 1];
    }

    private Observation firstSeen(int station, int pair) {
        return now.stations[station].seen[2 * pair];
    }

    private Observation secondSeen(int station, int pair) {
        return now.stations[station].seen[2 * pair + 1];
    }

    private boolean isPairHung(int pair) {
        return firstOf(pair).hung && secondOf(pair).hung;
    }

    private boolean isPairAtOnePlace(int pair) {
        return firstOf(pair).x == secondOf(pair).x && firstOf(pair).y == secondOf(pair).y;
    }

    private int surfaceBearing(int pair) {
        Wire first = firstOf(pair);
        Wire second = secondOf(pair);
        return bearingOf(second.x - first.x, second.y - first.y);
    }

    /** The lowest reason for which the pair gives no orientation at the station, or NO_REASON. */
    private int reasonAgainst(int station, int pair) {
        if (!isPairHung(pair)) {
            return NOT_HUNG;
        }
        Observation first = firstSeen(station, pair);
        Observation second = secondSeen(station, pair);
        if (!first.valid || !second.valid) {
            return NOT_OBSERVED;
        }
        if (isPairAtOnePlace(pair) || (first.meanX == second.meanX && first.meanY == second.meanY)) {
            return SAME_PLACE;
        }
        return NO_REASON;
    }

    private static int lowerReason(int one, int other) {
        if (one == NO_REASON) {
            return other;
        }
        if (other == NO_REASON) {
            return one;
        }
        return Math.min(one, other);
    }

    private int orientationFrom(int station, int pair) {
        Observation first = firstSeen(station, pair);
        Observation second = secondSeen(station, pair);
        int below = bearingOf(second.meanX - first.meanX, second.meanY - first.meanY);
        int reading = onCircle((long) below + now.stations[station].frame);
        return onCircle((long) surfaceBearing(pair) - reading);
    }

    // ---- arithmetic

    /** The bearing of a line; long, since the means of bent wires lie millions of millimeters apart. */
    private static int bearingOf(long dx, long dy) {
        long m = Math.abs(dx) + Math.abs(dy);
        if (m == 0) {
            return 0;
        }
        // No dividend is below 0 here, so that each quotient is rounded down.
        if (dx > 0 && dy >= 0) {
            return (int) (2000 * dy / m);
        }
        if (dy > 0) {
            return (int) (2000 + 2000 * -dx / m);
        }
        if (dx < 0) {
            return (int) (4000 + 2000 * -dy / m);
        }
        return (int) (6000 + 2000 * dx / m);
    }

    private static int onCircle(long angle) {
        return (int) Math.floorMod(angle, (long) CIRCLE);
    }

    private static int roundedToZero(int dividend, int divisor) {
        if (divisor == 0) {
            return 0;
        }
        return dividend / divisor;
    }

    /** A wire with its bob; it counts only while it is hung. */
    private static final class Wire {
        boolean hung;
        int x;
        int y;
        int mass;
        int depth;
        // Kept beside the depth, so that the chains of calls stay short.
        int quarterTicks;
        int ex;
        int ey;
        int bucket;
        int direction;
        int amplitude;
        int phase;

        void copyFrom(Wire other) {
            hung = other.hung;
            x = other.x;
            y = other.y;
            mass = other.mass;
            depth = other.depth;
            quarterTicks = other.quarterTicks;
            ex = other.ex;
            ey = other.ey;
            bucket = other.bucket;
            direction = other.direction;
            amplitude = other.amplitude;
            phase = other.phase;
        }

        void hangAnew(int newX, int newY, int newMass, int newDepth) {
            hung = true;
            x = newX;
            y = newY;
            mass = newMass;
            depth = newDepth;
            quarterTicks = 1 + newDepth / 100;
            ex = 0;
            ey = 0;
            bucket = 0;
            direction = 0;
            startSway(0);
        }

        void startSway(int newAmplitude) {
            amplitude = newAmplitude;
            phase = 0;
        }

        void tradePlaces(Wire other) {
            int oldX = x;
            int oldY = y;
            x = other.x;
            y = other.y;
            other.x = oldX;
            other.y = oldY;
        }

        int periodTicks() {
            return 4 * quarterTicks;
        }

        void swayOneTick() {
            phase++;
            if (phase >= periodTicks()) {
                phase = 0;
                amplitude = calmed(amplitude);
            }
        }

        /** What is left of an amplitude after one period. */
        int calmed(int before) {
            switch (bucket) {
                case 1:
                    return before * 70 / 100;
                case 2:
                    return before * 50 / 100;
                default:
                    return before * 95 / 100;
            }
        }

        int ticksUntilCalm(int limit) {
            if (amplitude <= limit) {
                return 0;
            }
            int ticks = periodTicks() - phase;
            int left = calmed(amplitude);
            // Each period takes at least 1 off an amplitude that is above 0.
            for (int i = 0; i < MOST_AMPLITUDE && left > limit; i++) {
                ticks += periodTicks();
                left = calmed(left);
            }
            return ticks;
        }

        int swing() {
            if (phase < quarterTicks) {
                return roundedToZero(amplitude * phase, quarterTicks);
            }
            if (phase < 3 * quarterTicks) {
                return roundedToZero(amplitude * (2 * quarterTicks - phase), quarterTicks);
            }
            return roundedToZero(amplitude * (phase - 4 * quarterTicks), quarterTicks);
        }

        /** How far the wire is off its rest at a depth, along one axis. */
        int swayAt(int z, int axis) {
            if (!isWithin(direction, 0, DIRECTIONS - 1)) {
                return 0;
            }
            int component = axis == X_AXIS ? DIRECTION_X[direction] : DIRECTION_Y[direction];
            return component * roundedToZero(swing() * z, depth);
        }

        int property(int what) {
            switch (what) {
                case 0:
                    return x;
                case 1:
                    return y;
                case 2:
                    return mass;
                case 3:
                    return depth;
                case 4:
                    return ex;
                case 5:
                    return ey;
                case 6:
                    return bucket;
                case 7:
                    return direction;
                case 8:
                    return amplitude;
                case 9:
                    return phase;
                default:
                    return periodTicks();
            }
        }
    }

    /** A current of air in a range of depths. */
    private static final class Current {
        int from;
        int to;
        int forceX;
        int forceY;

        void copyFrom(Current other) {
            from = other.from;
            to = other.to;
            forceX = other.forceX;
            forceY = other.forceY;
        }

        void become(int newFrom, int newTo, int newForceX, int newForceY) {
            from = newFrom;
            to = newTo;
            forceX = newForceX;
            forceY = newForceY;
        }

        /** How far it bends a wire of this mass at the depth z, along one axis. */
        int bend(int mass, int z, int axis) {
            if (mass < 1) {
                return 0;
            }
            long force = axis == X_AXIS ? forceX : forceY;
            long overlap = Math.min(to, z) - Math.min(from, z);
            return (int) Math.floorDiv(force * overlap * z, 100L * mass);
        }
    }

    /** What was seen of one wire at one station; it counts only while it is valid. */
    private static final class Observation {
        boolean valid;
        int meanX;
        int meanY;
        int spread;
        int ticks;
        int endTime;

        void copyFrom(Observation other) {
            valid = other.valid;
            meanX = other.meanX;
            meanY = other.meanY;
            spread = other.spread;
            ticks = other.ticks;
            endTime = other.endTime;
        }

        int property(int what) {
            switch (what) {
                case 0:
                    return meanX;
                case 1:
                    return meanY;
                case 2:
                    return spread;
                case 3:
                    return ticks;
                default:
                    return endTime;
            }
        }
    }

    /** A station with what it has seen of each wire. */
    private static final class Station {
        int depth;
        int frame;
        boolean hasOrientation;
        int orientation;
        final Observation[] seen;

        Station() {
            seen = new Observation[WIRES];
            for (int i = 0; i < WIRES; i++) {
                seen[i] = new Observation();
            }
        }

        void copyFrom(Station other) {
            depth = other.depth;
            frame = other.frame;
            hasOrientation = other.hasOrientation;
            orientation = other.orientation;
            for (int i = 0; i < WIRES; i++) {
                seen[i].copyFrom(other.seen[i]);
            }
        }

        void become(int newDepth, int newFrame) {
            depth = newDepth;
            frame = newFrame;
            hasOrientation = false;
            orientation = 0;
            for (int i = 0; i < WIRES; i++) {
                seen[i].valid = false;
            }
        }

        int validObservations() {
            int valid = 0;
            for (int i = 0; i < WIRES; i++) {
                if (seen[i].valid) {
                    valid++;
                }
            }
            return valid;
        }
    }

    /** All that undo and the snapshots bring back. */
    private static final class State {
        final Wire[] wires;
        final Current[] currents;
        int currentCount;
        final Station[] stations;
        int stationCount;
        int time;
        int tolerance;
        int observedTicks;

        State() {
            wires = new Wire[WIRES];
            for (int i = 0; i < WIRES; i++) {
                wires[i] = new Wire();
            }
            currents = new Current[MOST_CURRENTS];
            for (int i = 0; i < MOST_CURRENTS; i++) {
                currents[i] = new Current();
            }
            stations = new Station[MOST_STATIONS];
            for (int i = 0; i < MOST_STATIONS; i++) {
                stations[i] = new Station();
            }
            tolerance = 10;
        }

        void copyFrom(State other) {
            for (int i = 0; i < WIRES; i++) {
                wires[i].copyFrom(other.wires[i]);
            }
            for (int i = 0; i < MOST_CURRENTS; i++) {
                currents[i].copyFrom(other.currents[i]);
            }
            currentCount = other.currentCount;
            for (int i = 0; i < MOST_STATIONS; i++) {
                stations[i].copyFrom(other.stations[i]);
            }
            stationCount = other.stationCount;
            time = other.time;
            tolerance = other.tolerance;
            observedTicks = other.observedTicks;
        }

        int hungWires() {
            int hung = 0;
            for (int i = 0; i < WIRES; i++) {
                if (wires[i].hung) {
                    hung++;
                }
            }
            return hung;
        }

        int orientedStations() {
            int oriented = 0;
            for (int i = 0; i < stationCount; i++) {
                if (stations[i].hasOrientation) {
                    oriented++;
                }
            }
            return oriented;
        }

        int validObservations() {
            int valid = 0;
            for (int i = 0; i < stationCount; i++) {
                valid += stations[i].validObservations();
            }
            return valid;
        }

        /** Makes all observations of a wire void, and tells how many become so. */
        int voidWire(int wire) {
            int voided = 0;
            for (int i = 0; i < stationCount; i++) {
                Observation seen = stations[i].seen[wire];
                if (seen.valid) {
                    seen.valid = false;
                    voided++;
                }
            }
            return voided;
        }

        void voidAllWires() {
            for (int i = 0; i < WIRES; i++) {
                voidWire(i);
            }
        }

        void passTick() {
            time++;
            for (int i = 0; i < WIRES; i++) {
                if (wires[i].hung) {
                    wires[i].swayOneTick();
                }
            }
        }

        int restAt(Wire wire, int z, int axis) {
            int sum = axis == X_AXIS ? wire.x + wire.ex : wire.y + wire.ey;
            for (int i = 0; i < currentCount; i++) {
                sum += currents[i].bend(wire.mass, z, axis);
            }
            return sum;
        }

        /** Observes a wire for at least one tick; its rest stays the same meanwhile, it only sways. */
        void look(int number, int station, int ticks) {
            Wire wire = wires[number];
            int z = stations[station].depth;
            int restX = restAt(wire, z, X_AXIS);
            int restY = restAt(wire, z, Y_AXIS);
            Readings alongX = new Readings();
            Readings alongY = new Readings();
            for (int i = 0; i < ticks; i++) {
                alongX.add(restX + wire.swayAt(z, X_AXIS));
                alongY.add(restY + wire.swayAt(z, Y_AXIS));
                passTick();
            }
            observedTicks += ticks;
            Observation seen = stations[station].seen[number];
            seen.valid = true;
            seen.meanX = alongX.mean();
            seen.meanY = alongY.mean();
            seen.spread = Math.max(alongX.spread(), alongY.spread());
            seen.ticks = ticks;
            seen.endTime = time;
        }
    }

    /** The readings along one axis while a wire is observed. */
    private static final class Readings {
        int taken;
        int sum;
        int least;
        int greatest;

        void add(int reading) {
            least = taken == 0 ? reading : Math.min(least, reading);
            greatest = taken == 0 ? reading : Math.max(greatest, reading);
            sum += reading;
            taken++;
        }

        int mean() {
            return taken < 1 ? 0 : Math.floorDiv(sum, taken);
        }

        int spread() {
            return greatest - least;
        }
    }

    /** The text of orders, and the orders that were last read from it. */
    private static final class OrderText {
        final char[] text;
        int length;
        final int[] words;
        final int[] numbers;
        int count;
        int place;

        OrderText() {
            text = new char[MOST_TEXT];
            words = new int[MOST_ORDERS];
            numbers = new int[MOST_ORDERS * MOST_NUMBERS];
        }

        void append(char character) {
            if (length < MOST_TEXT) {
                text[length] = character;
                length++;
            }
        }

        int numberOf(int order, int which) {
            return numbers[order * MOST_NUMBERS + which];
        }

        /** Reads the orders, and tells the fault of the text, or NO_FAULT. */
        int readOrders() {
            place = 0;
            count = 0;
            while (count < MOST_ORDERS) {
                if (!readOrder()) {
                    return place;
                }
                count++;
                if (place >= length) {
                    return NO_FAULT;
                }
                if (text[place] != ';') {
                    return place;
                }
                place++;
            }
            return place;
        }

        /** Reads an order and goes behind it; if it has a fault, goes to the fault and answers false. */
        boolean readOrder() {
            int end = tokenEnd();
            int word = wordUpTo(end);
            if (word == NO_WORD) {
                return false;
            }
            words[count] = word;
            place = end;
            String kinds = kindsOfNumbers(word);
            for (int i = 0; i < kinds.length(); i++) {
                if (place >= length || text[place] != ' ') {
                    return false;
                }
                place++;
                if (!readNumber(kinds.charAt(i), i)) {
                    return false;
                }
            }
            return true;
        }

        boolean readNumber(char kind, int which) {
            int end = tokenEnd();
            int number = numberUpTo(end);
            if (!isWithin(number, lowestNumber(kind), highestNumber(kind))) {
                return false;
            }
            numbers[count * MOST_NUMBERS + which] = number;
            place = end;
            return true;
        }

        /** Where the word or number at the place ends; the place itself, if there is none. */
        int tokenEnd() {
            int end = place;
            while (end < length && text[end] != ' ' && text[end] != ';') {
                end++;
            }
            return end;
        }

        int wordUpTo(int end) {
            for (int word = 0; word < ORDER_WORDS; word++) {
                if (isWordUpTo(end, wordText(word))) {
                    return word;
                }
            }
            return NO_WORD;
        }

        boolean isWordUpTo(int end, String wanted) {
            if (end - place != wanted.length()) {
                return false;
            }
            for (int i = 0; i < wanted.length(); i++) {
                if (text[place + i] != wanted.charAt(i)) {
                    return false;
                }
            }
            return true;
        }

        int numberUpTo(int end) {
            if (!isWithin(end - place, 1, MOST_DIGITS)) {
                return NO_NUMBER;
            }
            int number = 0;
            for (int i = place; i < end; i++) {
                if (!isWithin(text[i], '0', '9')) {
                    return NO_NUMBER;
                }
                number = 10 * number + (text[i] - '0');
            }
            return number;
        }

        static String wordText(int word) {
            switch (word) {
                case WAIT:
                    return "wait";
                case PUSH:
                    return "push";
                case LOOK:
                    return "look";
                case SWAP:
                    return "swap";
                case ORIENT:
                default:
                    return "orient";
            }
        }

        /** The numbers of an order: N ticks, W a wire, D a direction, A an amplitude, S a station. */
        static String kindsOfNumbers(int word) {
            switch (word) {
                case WAIT:
                    return "N";
                case PUSH:
                    return "WDA";
                case LOOK:
                    return "WSN";
                case SWAP:
                    return "WW";
                case ORIENT:
                default:
                    return "S";
            }
        }

        static int lowestNumber(char kind) {
            return kind == 'N' || kind == 'A' ? 1 : 0;
        }

        static int highestNumber(char kind) {
            switch (kind) {
                case 'N':
                    return MOST_TICKS;
                case 'W':
                    return WIRES - 1;
                case 'D':
                    return DIRECTIONS - 1;
                case 'A':
                    return MOST_AMPLITUDE;
                default:
                    return MOST_STATIONS - 1;
            }
        }
    }
}

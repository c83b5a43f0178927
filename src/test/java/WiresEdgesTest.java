/** Promises 1 to 9 and 21 to 24, each range and each answer just at its boundary and just beside it. */
public final class WiresEdgesTest {
    private static final int UNKNOWN = -100001;
    private static final int BAD_VALUE = -100002;
    private static final int REFUSED = -100003;
    private static final int FULL = -100004;
    private static final int NONE = -100005;
    private static final int MIN = Integer.MIN_VALUE;
    private static final int MAX = Integer.MAX_VALUE;
    private static final int[] NO_WIRES = {-1, 4, 5, MIN, MAX};

    private static int wrong = 0;
    private static String said = "";

    /** The promise, and what it says, that the next checks belong to. */
    private static void sentence(String quote) {
        said = quote;
    }

    private static void due(String call, int got, int want) {
        if (got != want) {
            wrong++;
            System.out.println("\"" + said + "\": " + call + " answered " + got + ", due is " + want);
        }
    }

    private static PlumbShaft hung(int... wires) {
        PlumbShaft shaft = new PlumbShaft();
        for (int wire : wires) {
            shaft.hang(wire, 10 * wire, -10 * wire, 1, 100);
        }
        return shaft;
    }

    // ---- 1: a new object

    private static void newObject() {
        sentence("PlumbShaft(): Creates a shaft without wires and stations.");
        PlumbShaft shaft = new PlumbShaft();
        for (int wire = 0; wire < 4; wire++) {
            due("wire", shaft.wire(wire, 0), NONE);
            due("rest", shaft.rest(wire, 0, 0), NONE);
            due("position", shaft.position(wire, 0, 0), NONE);
            due("calmIn", shaft.calmIn(wire, 500), NONE);
            due("lift", shaft.lift(wire), REFUSED);
        }
        for (int station = 0; station < 5; station++) {
            due("station", shaft.station(station, 0), UNKNOWN);
            due("observation", shaft.observation(station, 0, 0), UNKNOWN);
            due("given", shaft.given(station, 0), UNKNOWN);
            due("orient", shaft.orient(station), UNKNOWN);
        }
        due("surface(0)", shaft.surface(0), NONE);
        due("surface(1)", shaft.surface(1), NONE);
        PlumbShaft other = new PlumbShaft();
        for (int what = 0; what <= 10; what++) {
            due("count(" + what + ")", other.count(what), what == 6 ? 10 : 0);
        }
        shaft.hang(0, 0, 0, 1, 10);
        shaft.addStation(1, 0);
        due("another one has no wires", other.count(1), 0);
        due("another one has no stations", other.count(3), 0);
    }

    // ---- 2: hang

    private static void hangWires() {
        sentence("hang: wire: 0 to 3");
        for (int wire = 0; wire <= 3; wire++) {
            due("hang(" + wire + ")", new PlumbShaft().hang(wire, 0, 0, 1, 10), 1);
        }
        for (int wire : NO_WIRES) {
            due("hang(" + wire + ")", new PlumbShaft().hang(wire, 0, 0, 1, 10), UNKNOWN);
        }
    }

    /** One of the arguments x, y, mass and depth, the other ones right. */
    private static void hangWith(int which, int value, boolean isRight) {
        int[] a = {0, 0, 1, 10};
        a[which] = value;
        PlumbShaft shaft = new PlumbShaft();
        due("with " + value, shaft.hang(0, a[0], a[1], a[2], a[3]), isRight ? 1 : BAD_VALUE);
        due("what it has then", shaft.wire(0, which), isRight ? value : NONE);
        due("states", shaft.count(9), isRight ? 1 : 0);
    }

    private static void hangRanges() {
        String[] quotes = {"hang: x: -5000 to 5000", "hang: y: -5000 to 5000", "hang: mass: 1 to 200",
            "hang: depth: 10 to 800"};
        int[][] ranges = {{-5000, 5000}, {-5000, 5000}, {1, 200}, {10, 800}};
        for (int which = 0; which < 4; which++) {
            sentence(quotes[which]);
            int low = ranges[which][0];
            int high = ranges[which][1];
            int[] right = {low, low + 1, high - 1, high};
            int[] bad = {low - 1, low - 2, high + 1, high + 2, MIN, MAX};
            for (int value : right) {
                hangWith(which, value, true);
            }
            for (int value : bad) {
                hangWith(which, value, false);
            }
        }
        sentence("hang: mass: 1 to 200");
        hangWith(2, 0, false);
    }

    private static void hangAnswers() {
        sentence("hang returns the number of wires that are hung then; anew if it is hung.");
        PlumbShaft shaft = new PlumbShaft();
        int[] order = {3, 0, 2, 1};
        for (int i = 0; i < 4; i++) {
            due("hang(" + order[i] + ")", shaft.hang(order[i], i, i, 1, 10), i + 1);
            due("anew", shaft.hang(order[i], i, i, 1, 10), i + 1);
            due("count(1)", shaft.count(1), i + 1);
        }
        for (int wire = 0; wire < 4; wire++) {
            due("anew", shaft.hang(wire, -wire, wire, 200, 800), 4);
            due("its x", shaft.wire(wire, 0), -wire);
            due("its depth", shaft.wire(wire, 3), 800);
        }
    }

    // ---- 3: lift

    private static void lift() {
        sentence("lift: wire: 0 to 3; UNKNOWN");
        PlumbShaft shaft = hung(0, 1, 2, 3);
        for (int wire : NO_WIRES) {
            due("lift(" + wire + ")", shaft.lift(wire), UNKNOWN);
        }
        sentence("lift returns the number of wires that are hung then; REFUSED for the reason 1.");
        for (int i = 3; i >= 0; i--) {
            due("reason", shaft.count(8), i == 3 ? 0 : 1);
            due("lift(" + i + ")", shaft.lift(i), i);
            due("wire", shaft.wire(i, 0), NONE);
            due("lift again", shaft.lift(i), REFUSED);
            due("count(1)", shaft.count(1), i);
        }
        due("hung again", shaft.hang(2, 0, 0, 1, 10), 1);
        due("lift", shaft.lift(2), 0);
    }

    // ---- 4: setClamp

    private static void setClampWires() {
        sentence("setClamp: wire: 0 to 3; UNKNOWN; REFUSED for the reason 1.");
        for (int wire = 0; wire <= 3; wire++) {
            PlumbShaft shaft = hung((wire + 1) % 4, (wire + 2) % 4, (wire + 3) % 4);
            due("not hung", shaft.setClamp(wire, 1, 1), REFUSED);
            due("reason", shaft.count(8), 1);
            due("hung", hung(wire).setClamp(wire, 1, 1), 2);
        }
        for (int wire : NO_WIRES) {
            due("setClamp(" + wire + ")", hung(0, 1, 2, 3).setClamp(wire, 1, 1), UNKNOWN);
        }
    }

    private static void setClampRanges() {
        sentence("setClamp: ex: -20 to 20, ey: -20 to 20; returns the sum of both without their signs; BAD_VALUE");
        int[] right = {-20, -19, -1, 0, 1, 19, 20};
        for (int value : right) {
            PlumbShaft shaft = hung(1);
            due("ex " + value, shaft.setClamp(1, value, 3), Math.abs(value) + 3);
            due("ex then", shaft.wire(1, 4), value);
            due("ey then", shaft.wire(1, 5), 3);
            due("ey " + value, shaft.setClamp(1, -3, value), Math.abs(value) + 3);
            due("ex then", shaft.wire(1, 4), -3);
            due("ey then", shaft.wire(1, 5), value);
            due("both " + value, shaft.setClamp(1, value, value), 2 * Math.abs(value));
        }
        int[] bad = {-21, -22, 21, 22, MIN, MAX};
        for (int value : bad) {
            PlumbShaft shaft = hung(1);
            due("ex " + value, shaft.setClamp(1, value, 0), BAD_VALUE);
            due("ey " + value, shaft.setClamp(1, 0, value), BAD_VALUE);
            due("ex then", shaft.wire(1, 4), 0);
            due("ey then", shaft.wire(1, 5), 0);
        }
        due("-20 and 20", hung(1).setClamp(1, -20, 20), 40);
    }

    // ---- 5: setBucket

    private static void setBucket() {
        sentence("setBucket: wire: 0 to 3; UNKNOWN; REFUSED for the reason 1.");
        for (int wire = 0; wire <= 3; wire++) {
            PlumbShaft shaft = hung((wire + 1) % 4, (wire + 2) % 4, (wire + 3) % 4);
            due("not hung", shaft.setBucket(wire, 1), REFUSED);
            due("reason", shaft.count(8), 1);
            due("hung", hung(wire).setBucket(wire, 1), 0);
        }
        for (int wire : NO_WIRES) {
            due("setBucket(" + wire + ")", hung(0, 1, 2, 3).setBucket(wire, 1), UNKNOWN);
        }
        sentence("setBucket: bucket: 0 to 2; returns the previous bucket; BAD_VALUE");
        PlumbShaft shaft = hung(3);
        int[] buckets = {0, 1, 2, 2, 1, 0, 2, 0};
        int previous = 0;
        for (int bucket : buckets) {
            due("bucket " + bucket, shaft.setBucket(3, bucket), previous);
            due("then", shaft.wire(3, 6), bucket);
            previous = bucket;
        }
        int[] bad = {-1, -2, 3, 4, MIN, MAX};
        for (int bucket : bad) {
            due("bucket " + bucket, shaft.setBucket(3, bucket), BAD_VALUE);
        }
        due("then", shaft.wire(3, 6), 0);
    }

    // ---- 6: push

    private static void pushWires() {
        sentence("push: wire: 0 to 3; UNKNOWN; REFUSED for the reason 1.");
        for (int wire = 0; wire <= 3; wire++) {
            PlumbShaft shaft = hung((wire + 1) % 4, (wire + 2) % 4, (wire + 3) % 4);
            due("not hung", shaft.push(wire, 0, 1), REFUSED);
            due("reason", shaft.count(8), 1);
            due("hung", hung(wire).push(wire, 0, 1), 8);
        }
        for (int wire : NO_WIRES) {
            due("push(" + wire + ")", hung(0, 1, 2, 3).push(wire, 0, 1), UNKNOWN);
        }
    }

    private static void pushRanges() {
        sentence("push: direction: 0 to 7; BAD_VALUE");
        PlumbShaft shaft = hung(0);
        for (int direction = 7; direction >= 0; direction--) {
            due("direction " + direction, shaft.push(0, direction, 5), 8);
            due("then", shaft.wire(0, 7), direction);
        }
        int[] bad = {-1, -2, 8, 9, MIN, MAX};
        for (int direction : bad) {
            due("direction " + direction, shaft.push(0, direction, 5), BAD_VALUE);
        }
        due("then", shaft.wire(0, 7), 0);
        sentence("push: amplitude: 1 to 500; BAD_VALUE");
        int[] right = {1, 2, 499, 500};
        for (int amplitude : right) {
            due("amplitude " + amplitude, shaft.push(0, 3, amplitude), 8);
            due("then", shaft.wire(0, 8), amplitude);
        }
        int[] badAmplitudes = {0, -1, 501, 502, MIN, MAX};
        for (int amplitude : badAmplitudes) {
            due("amplitude " + amplitude, shaft.push(0, 3, amplitude), BAD_VALUE);
        }
        due("then", shaft.wire(0, 8), 500);
    }

    private static void pushPhase() {
        sentence("push: it gets the direction and the amplitude, and the phase 0; returns its period");
        for (int ticks = 0; ticks <= 9; ticks++) {
            PlumbShaft shaft = hung(2);
            shaft.push(2, 1, 50);
            if (ticks > 0) {
                shaft.pass(ticks);
            }
            due("phase before", shaft.wire(2, 9), ticks % 8);
            due("push", shaft.push(2, 5, 60), 8);
            due("phase", shaft.wire(2, 9), 0);
            due("direction", shaft.wire(2, 7), 5);
            due("amplitude", shaft.wire(2, 8), 60);
        }
    }

    // ---- 7: swap

    private static void swapWires() {
        sentence("swap: one: a wire, other: another wire; UNKNOWN; BAD_VALUE if both are the same; REFUSED for the"
                + " reason 1.");
        for (int one = 0; one < 4; one++) {
            for (int other = 0; other < 4; other++) {
                PlumbShaft shaft = hung(0, 1, 2, 3);
                due("swap(" + one + ", " + other + ")", shaft.swap(one, other), one == other ? BAD_VALUE : 0);
                due("the one's x", shaft.wire(one, 0), 10 * other);
                due("the other's y", shaft.wire(other, 1), -10 * one);
                if (one != other) {
                    due("one not hung", hung(other).swap(one, other), REFUSED);
                    due("other not hung", hung(one).swap(one, other), REFUSED);
                    due("none hung", new PlumbShaft().swap(one, other), REFUSED);
                }
            }
        }
        for (int wire : NO_WIRES) {
            PlumbShaft shaft = hung(0, 1, 2, 3);
            due("swap(" + wire + ", 0)", shaft.swap(wire, 0), UNKNOWN);
            due("swap(3, " + wire + ")", shaft.swap(3, wire), UNKNOWN);
            due("swap(" + wire + ") with itself", shaft.swap(wire, wire), UNKNOWN);
        }
    }

    private static void swapAnswers() {
        sentence("swap returns how many observations become void by this");
        PlumbShaft shaft = hung(0, 1, 2, 3);
        for (int i = 0; i < 5; i++) {
            shaft.addStation(100, 0);
        }
        int[][] looks = {{0, 0, 1}, {0, 4, 2}, {2, 0, 3}, {2, 1, 4}, {2, 2, 5}, {2, 3, 6}, {2, 4, 7}, {0, 1, 8},
            {0, 2, 9}, {0, 3, 10}};
        for (int[] l : looks) {
            shaft.observe(l[0], l[1], 1);
            shaft.observe(1, l[1], 1);
            due("swap(2, 0)", shaft.swap(2, 0), 1);
            due("again", shaft.swap(0, 2), 0);
        }
        for (int i = 0; i < looks.length; i++) {
            shaft.observe(looks[i][0], looks[i][1], 1);
        }
        due("all ten", shaft.swap(0, 2), 10);
        due("again", shaft.swap(0, 2), 0);
        due("another one's five", shaft.swap(3, 1), 5);
    }

    // ---- 8: addCurrent

    private static void addCurrentRanges() {
        sentence("addCurrent: a: 0 to 799, b: a + 1 to 800; BAD_VALUE");
        int[][] right = {{0, 1}, {0, 2}, {0, 799}, {0, 800}, {1, 2}, {1, 800}, {798, 799}, {798, 800}, {799, 800},
            {400, 401}};
        for (int[] r : right) {
            due("from " + r[0] + " to " + r[1], new PlumbShaft().addCurrent(r[0], r[1], 0, 0), 1);
        }
        int[][] bad = {{-1, 0}, {-1, 1}, {-1, 800}, {0, 0}, {0, -1}, {0, 801}, {1, 1}, {1, 0}, {400, 400}, {400, 399},
            {798, 798}, {799, 799}, {799, 798}, {799, 801}, {800, 800}, {800, 801}, {800, 799}, {801, 802}, {MAX, MIN},
            {MAX, 5}, {MAX, MAX}, {MIN, 5}, {MIN, MIN}, {0, MAX}, {0, MIN}};
        for (int[] b : bad) {
            PlumbShaft shaft = new PlumbShaft();
            due("from " + b[0] + " to " + b[1], shaft.addCurrent(b[0], b[1], 0, 0), BAD_VALUE);
            due("currents", shaft.count(2), 0);
        }
        sentence("addCurrent: fx: -50 to 50, fy: -50 to 50; BAD_VALUE");
        int[] rightForces = {-50, -49, 0, 49, 50};
        for (int force : rightForces) {
            due("fx " + force, new PlumbShaft().addCurrent(0, 1, force, 0), 1);
            due("fy " + force, new PlumbShaft().addCurrent(0, 1, 0, force), 1);
            due("both " + force, new PlumbShaft().addCurrent(0, 1, force, force), 1);
        }
        int[] badForces = {-51, -52, 51, 52, MIN, MAX};
        for (int force : badForces) {
            due("fx " + force, new PlumbShaft().addCurrent(0, 1, force, 0), BAD_VALUE);
            due("fy " + force, new PlumbShaft().addCurrent(0, 1, 0, force), BAD_VALUE);
        }
    }

    private static void addCurrentFull() {
        sentence("addCurrent returns the number of currents then; FULL if there are 5.");
        PlumbShaft shaft = hung(0);
        for (int round = 0; round < 2; round++) {
            for (int n = 1; n <= 5; n++) {
                due("current " + n, shaft.addCurrent(0, 100, n, -n), n);
                due("count(2)", shaft.count(2), n);
            }
            due("the sixth", shaft.addCurrent(0, 100, 1, 1), FULL);
            due("count(2)", shaft.count(2), 5);
            due("bent by all five", shaft.rest(0, 100, 0), 100 * (1 + 2 + 3 + 4 + 5));
            due("clear", shaft.clearCurrents(), 5);
        }
        for (int n = 1; n <= 5; n++) {
            shaft.addCurrent(0, 100, n, -n);
        }
        shaft.undo();
        due("the fifth again", shaft.addCurrent(0, 100, 50, 50), 5);
        due("the sixth", shaft.addCurrent(0, 100, 50, 50), FULL);
        due("bent", shaft.rest(0, 100, 0), 100 * (1 + 2 + 3 + 4 + 50));
    }

    // ---- 9: clearCurrents

    private static void clearCurrents() {
        sentence("clearCurrents returns how many there were; NONE if there were none.");
        PlumbShaft shaft = new PlumbShaft();
        due("none", shaft.clearCurrents(), NONE);
        for (int many = 1; many <= 5; many++) {
            for (int n = 0; n < many; n++) {
                shaft.addCurrent(0, 1, 0, 0);
            }
            due("clear", shaft.clearCurrents(), many);
            due("count(2)", shaft.count(2), 0);
            due("again", shaft.clearCurrents(), NONE);
        }
    }

    // ---- 21: wire

    private static void tellWires() {
        sentence("wire: wire: 0 to 3; UNKNOWN; NONE if it is not hung.");
        for (int wire = 0; wire <= 3; wire++) {
            for (int what = 0; what <= 10; what++) {
                due("not hung", new PlumbShaft().wire(wire, what), NONE);
            }
            due("hung", hung(wire).wire(wire, 0), 10 * wire);
        }
        for (int wire : NO_WIRES) {
            due("wire(" + wire + ", 0)", hung(0, 1, 2, 3).wire(wire, 0), UNKNOWN);
        }
        sentence("wire: what: 0 for x, 1 for y of its place, 2 for its mass, 3 for its depth, 4 for ex, 5 for ey, 6 for"
                + " its bucket, 7 for its direction, 8 for its amplitude, 9 for its phase, 10 for its period");
        PlumbShaft shaft = new PlumbShaft();
        shaft.hang(2, 11, 12, 13, 314);
        shaft.setClamp(2, 15, 16);
        shaft.setBucket(2, 1);
        shaft.push(2, 6, 17);
        shaft.pass(5);
        int[] told = {11, 12, 13, 314, 15, 16, 1, 6, 17, 5, 16};
        for (int what = 0; what <= 10; what++) {
            due("wire(2, " + what + ")", shaft.wire(2, what), told[what]);
        }
        int[] bad = {-1, -2, 11, 12, MIN, MAX};
        for (int what : bad) {
            due("wire(2, " + what + ")", shaft.wire(2, what), BAD_VALUE);
            due("not hung", shaft.wire(1, what), BAD_VALUE);
        }
    }

    // ---- 22, 23: rest, position

    private static int told(PlumbShaft shaft, boolean swaying, int wire, int depth, int axis) {
        return swaying ? shaft.position(wire, depth, axis) : shaft.rest(wire, depth, axis);
    }

    private static void restAndPosition(boolean swaying) {
        String name = swaying ? "position" : "rest";
        sentence(name + ": wire: 0 to 3; UNKNOWN; NONE if it is not hung");
        for (int wire = 0; wire <= 3; wire++) {
            due("hung", told(hung(wire), swaying, wire, 0, 0), 10 * wire);
            due("not hung", told(hung((wire + 1) % 4), swaying, wire, 0, 0), NONE);
            due("not hung, at 800", told(hung((wire + 1) % 4), swaying, wire, 800, 1), NONE);
        }
        for (int wire : NO_WIRES) {
            due(name + "(" + wire + ")", told(hung(0, 1, 2, 3), swaying, wire, 0, 0), UNKNOWN);
        }
        sentence(name + ": depth: 0 to 800; BAD_VALUE; NONE if it is not so deep.");
        PlumbShaft shaft = new PlumbShaft();
        shaft.hang(0, 1, 2, 1, 10);
        shaft.hang(1, 3, 4, 1, 799);
        shaft.hang(2, 5, 6, 1, 800);
        int[][] depths = {{-1, BAD_VALUE, BAD_VALUE, BAD_VALUE}, {0, 1, 3, 5}, {1, 1, 3, 5}, {9, 1, 3, 5},
            {10, 1, 3, 5}, {11, NONE, 3, 5}, {798, NONE, 3, 5}, {799, NONE, 3, 5}, {800, NONE, NONE, 5},
            {801, BAD_VALUE, BAD_VALUE, BAD_VALUE}, {MIN, BAD_VALUE, BAD_VALUE, BAD_VALUE},
            {MAX, BAD_VALUE, BAD_VALUE, BAD_VALUE}};
        for (int[] d : depths) {
            for (int wire = 0; wire < 3; wire++) {
                int x = d[1 + wire];
                due(name + "(" + wire + ", " + d[0] + ", 0)", told(shaft, swaying, wire, d[0], 0), x);
                due(name + "(" + wire + ", " + d[0] + ", 1)", told(shaft, swaying, wire, d[0], 1), x < 0 ? x : x + 1);
            }
        }
        sentence(name + ": axis: 0 for x, 1 for y; BAD_VALUE");
        int[] axes = {-1, -2, 2, 3, MIN, MAX};
        for (int axis : axes) {
            due("axis " + axis, told(shaft, swaying, 0, 0, axis), BAD_VALUE);
            due("axis " + axis + ", not so deep", told(shaft, swaying, 0, 11, axis), BAD_VALUE);
            due("axis " + axis + ", not hung", told(shaft, swaying, 3, 0, axis), BAD_VALUE);
        }
    }

    private static void positionNow() {
        sentence("position returns the position of the wire at this depth now");
        PlumbShaft shaft = hung(1);
        shaft.push(1, 7, 100);
        int[] off = {0, 50, 100, 50, 0, -50, -100, -50, 0, 47, 95, 47, 0};
        for (int tick = 0; tick < off.length; tick++) {
            due("x after " + tick, shaft.position(1, 100, 0), 10 + off[tick]);
            due("y after " + tick, shaft.position(1, 100, 1), -10 - off[tick]);
            due("x at rest", shaft.rest(1, 100, 0), 10);
            due("y at rest", shaft.rest(1, 100, 1), -10);
            shaft.pass(1);
        }
    }

    // ---- 24: calmIn

    private static void calmInRanges() {
        sentence("calmIn: wire: 0 to 3; UNKNOWN; NONE if it is not hung.");
        for (int wire = 0; wire <= 3; wire++) {
            due("hung", hung(wire).calmIn(wire, 0), 0);
            due("not hung", hung((wire + 1) % 4).calmIn(wire, 0), NONE);
        }
        for (int wire : NO_WIRES) {
            due("calmIn(" + wire + ")", hung(0, 1, 2, 3).calmIn(wire, 0), UNKNOWN);
        }
        sentence("calmIn: limit: 0 to 500; BAD_VALUE");
        PlumbShaft shaft = hung(0);
        shaft.push(0, 0, 500);
        due("limit 500", shaft.calmIn(0, 500), 0);
        due("limit 499", shaft.calmIn(0, 499), 8);
        shaft.push(0, 0, 1);
        due("limit 1", shaft.calmIn(0, 1), 0);
        due("limit 0", shaft.calmIn(0, 0), 8);
        int[] bad = {-1, -2, 501, 502, MIN, MAX};
        for (int limit : bad) {
            due("limit " + limit, shaft.calmIn(0, limit), BAD_VALUE);
            due("not hung", shaft.calmIn(1, limit), BAD_VALUE);
        }
    }

    private static void calmInTicks() {
        sentence("calmIn: in how many ticks the amplitude of a wire will be at most a limit, if nobody touches it;"
                + " returns the ticks, 0 if it is so already");
        // the amplitudes of 100 at the end of each period
        int[][] left = {{100, 95, 90, 85}, {100, 70, 49, 34}, {100, 50, 25, 12}};
        for (int bucket = 0; bucket < 3; bucket++) {
            for (int phase = 0; phase < 8; phase++) {
                PlumbShaft shaft = hung(3);
                shaft.setBucket(3, bucket);
                shaft.push(3, 2, 100);
                if (phase > 0) {
                    shaft.pass(phase);
                }
                for (int period = 0; period < 4; period++) {
                    int limit = left[bucket][period];
                    int ticks = period == 0 ? 0 : 8 * period - phase;
                    due("at most " + limit, shaft.calmIn(3, limit), ticks);
                    due("at most " + (limit - 1), shaft.calmIn(3, limit - 1), 8 * period + 8 - phase);
                    int above = period == 0 ? 0 : limit + 1 == left[bucket][period - 1] ? 8 * period - 8 : ticks;
                    due("at most " + (limit + 1), shaft.calmIn(3, limit + 1), above);
                }
                due("it tells only: amplitude", shaft.wire(3, 8), 100);
                due("it tells only: phase", shaft.wire(3, 9), phase);
            }
        }
    }

    private static void calmInPeriods() {
        sentence("calmIn returns the ticks");
        int[] depths = {10, 99, 100, 799, 800};
        int[] periods = {4, 4, 8, 32, 36};
        for (int i = 0; i < depths.length; i++) {
            PlumbShaft shaft = new PlumbShaft();
            shaft.hang(0, 0, 0, 1, depths[i]);
            shaft.push(0, 0, 20);
            due("at the depth " + depths[i], shaft.calmIn(0, 19), periods[i]);
            due("at the depth " + depths[i], shaft.calmIn(0, 18), 2 * periods[i]);
            shaft.pass(periods[i] - 1);
            due("one tick left", shaft.calmIn(0, 19), 1);
            shaft.pass(1);
            due("no tick left", shaft.calmIn(0, 19), 0);
            due("a whole period left", shaft.calmIn(0, 18), periods[i]);
            // 19, 18, 17, then one less in each period, to 0
            due("to the end", shaft.calmIn(0, 0), 19 * periods[i]);
        }
    }

    public static void main(String[] args) {
        newObject();
        hangWires();
        hangRanges();
        hangAnswers();
        lift();
        setClampWires();
        setClampRanges();
        setBucket();
        pushWires();
        pushRanges();
        pushPhase();
        swapWires();
        swapAnswers();
        addCurrentRanges();
        addCurrentFull();
        clearCurrents();
        tellWires();
        restAndPosition(false);
        restAndPosition(true);
        positionNow();
        calmInRanges();
        calmInTicks();
        calmInPeriods();
        System.out.println(wrong == 0 ? "edges of the wires: all as due"
                : "edges of the wires: " + wrong + " answers are not as due");
        if (wrong != 0) {
            System.exit(1);
        }
    }
}

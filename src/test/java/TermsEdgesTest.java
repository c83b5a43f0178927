/**
 * The sentences of "Terms" that name a boundary, each with a test of its own, just at it and just beside it.
 * What holds for errors, refusals and history stands in ErrorsEdgesTest, what holds for orders in
 * OrdersEdgesTest.
 */
public final class TermsEdgesTest {
    private static final int REFUSED = -100003;
    private static final int NONE = -100005;

    private static int wrong = 0;
    private static String said = "";

    /** The sentence of the document that the next checks belong to. */
    private static void sentence(String quote) {
        said = quote;
    }

    private static void due(String call, int got, int want) {
        if (got != want) {
            wrong++;
            System.out.println("\"" + said + "\": " + call + " answered " + got + ", due is " + want);
        }
    }

    // ---- divisions, products, remainders

    /** How far one current of this force, from 0 to 1, bends a wire of the mass 3 at 10 meters: force / 30. */
    private static int thirtieth(int force, int axis) {
        PlumbShaft shaft = new PlumbShaft();
        shaft.hang(0, 0, 0, 3, 10);
        shaft.addCurrent(0, 1, axis == 0 ? force : 0, axis == 1 ? force : 0);
        return shaft.rest(0, 10, axis);
    }

    private static void divisionsOfBending() {
        sentence("All divisions round down (also of negative numbers), but where told otherwise.");
        int[][] quotients = {{29, 0}, {30, 1}, {31, 1}, {1, 0}, {0, 0}, {-1, -1}, {-29, -1}, {-30, -1}, {-31, -2}};
        for (int[] q : quotients) {
            due("x bent by " + q[0] + " / 30", thirtieth(q[0], 0), q[1]);
            due("y bent by " + q[0] + " / 30", thirtieth(q[0], 1), q[1]);
        }
    }

    private static void divisionsOfMeans() {
        sentence("The observation has the mean of the readings (their sum / n) for x and for y");
        // the swings of the first ticks are 0 and 1, so that the sums are 2 * place + 1 or 2 * place - 1
        int[][] means = {{0, 0, 0}, {0, 4, -1}, {-1, 0, -1}, {-1, 4, -2}, {1, 4, 0}, {1, 0, 1}};
        for (int[] m : means) {
            PlumbShaft shaft = new PlumbShaft();
            shaft.hang(0, m[0], m[0], 1, 10);
            shaft.addStation(10, 0);
            shaft.push(0, m[1], 1);
            shaft.observe(0, 0, 2);
            due("mean x from " + m[0] + " to " + m[1], shaft.observation(0, 0, 0), m[2]);
            due("mean y, which does not sway", shaft.observation(0, 0, 1), m[0]);
            shaft.hang(0, m[0], m[0], 1, 10);
            shaft.push(0, m[1] + 2, 1);
            shaft.observe(0, 0, 2);
            due("mean y from " + m[0] + " to " + (m[1] + 2), shaft.observation(0, 0, 1), m[2]);
            due("mean x, which does not sway", shaft.observation(0, 0, 0), m[0]);
        }
    }

    /**
     * Two pairs whose bearings are 0 at the surface, and one and other (-20 to 20) at the station 0, so that
     * they give -one - frame and -other - frame.
     */
    private static PlumbShaft pairs(int one, int other, int frame) {
        PlumbShaft shaft = new PlumbShaft();
        int[] clamps = {one, other};
        shaft.addStation(10, frame);
        for (int pair = 0; pair < 2; pair++) {
            shaft.hang(2 * pair, 0, 0, 1, 10);
            shaft.hang(2 * pair + 1, 2000 - Math.abs(clamps[pair]), 0, 1, 10);
            shaft.setClamp(2 * pair + 1, 0, clamps[pair]);
            shaft.observe(2 * pair, 0, 1);
            shaft.observe(2 * pair + 1, 0, 1);
        }
        return shaft;
    }

    private static void divisionsOfDifferences() {
        sentence("the orientation becomes (r + difference / 2) mod 8000.");
        int[][] halves = {{-4, -2}, {-3, -2}, {-2, -1}, {-1, -1}, {0, 0}, {1, 0}, {2, 1}, {3, 1}, {4, 2}};
        for (int[] h : halves) {
            due("orient with the difference " + h[0], pairs(0, -h[0], 4000).orient(0), 4000 + h[1]);
        }
        // at the ends of the circle
        due("r 7999, difference 1", pairs(1, 0, 0).orient(0), 7999);
        due("r 7999, difference 2", pairs(1, -1, 0).orient(0), 0);
        due("r 7999, difference 4", pairs(1, -3, 0).orient(0), 1);
        due("r 7998, difference 2", pairs(2, 0, 0).orient(0), 7999);
        due("r 7998, difference 4", pairs(2, -2, 0).orient(0), 0);
        due("r 0, difference 0", pairs(0, 0, 0).orient(0), 0);
        due("r 0, difference 1", pairs(0, -1, 0).orient(0), 0);
        due("r 0, difference -1", pairs(0, 1, 0).orient(0), 7999);
        due("r 0, difference -2", pairs(0, 2, 0).orient(0), 7999);
        due("r 0, difference -3", pairs(0, 3, 0).orient(0), 7998);
        due("r 1, difference -1", pairs(-1, 0, 0).orient(0), 0);
        due("r 1, difference -2", pairs(-1, 1, 0).orient(0), 0);
        due("r 1, difference -3", pairs(-1, 2, 0).orient(0), 7999);
    }

    /** A pair whose means lie (dx, dy) apart, by five currents that bend its second wire, which is light. */
    private static PlumbShaft farPair(int far, int turn) {
        // three currents of 50 and one of 19 bend by 169 * 6400 * 199 / 200 more at the mass 1 than at 200
        int[] x = {1, -1, -1, 1};
        int[] y = {1, 1, -1, -1};
        boolean alongY = turn % 2 == 0;
        int sign = alongY ? y[turn] : x[turn];
        PlumbShaft shaft = new PlumbShaft();
        int place = sign * (far - 1076192);
        shaft.hang(0, 0, 0, 200, 800);
        shaft.hang(1, alongY ? x[turn] : place, alongY ? place : y[turn], 1, 800);
        int[] forces = {50, 50, 50, 19};
        for (int force : forces) {
            shaft.addCurrent(0, 800, alongY ? 0 : sign * force, alongY ? sign * force : 0);
        }
        shaft.addStation(800, 0);
        shaft.observe(0, 0, 1);
        shaft.observe(1, 0, 1);
        return shaft;
    }

    private static void products() {
        sentence("Products are exact, also beyond the range of an int.");
        int[] bearings = {1999, 3999, 5999, 7999};
        // 2000 * 1073741 is the last one within the range of an int
        for (int far = 1073740; far <= 1073743; far++) {
            for (int turn = 0; turn < 4; turn++) {
                PlumbShaft shaft = farPair(far, turn);
                int axis = turn % 2 == 0 ? 1 : 0;
                int apart = shaft.observation(0, 1, axis) - shaft.observation(0, 0, axis);
                due("how far apart", Math.abs(apart), far);
                due(far + " apart to " + turn, Math.floorMod(shaft.surface(0) - shaft.given(0, 0), 8000),
                        bearings[turn]);
            }
        }
    }

    private static void remainders() {
        sentence("x mod n is from 0 to n - 1.");
        // the reading 7999, 0 and 1; the orientation 1, 0 and 7999
        due("bearing 1, frame 7998", pairs(1, 1, 7998).given(0, 0), 1);
        due("bearing 1, frame 7999", pairs(1, 1, 7999).given(0, 0), 0);
        due("bearing 2, frame 7999", pairs(2, 2, 7999).given(0, 0), 7999);
        due("bearing 0, frame 0", pairs(0, 0, 0).given(0, 1), 0);
        due("bearing 0, frame 1", pairs(0, 0, 1).given(0, 1), 7999);
        due("bearing 0, frame 7999", pairs(0, 0, 7999).given(0, 1), 1);
        due("bearing 7999, frame 0", pairs(-1, -1, 0).given(0, 1), 1);
        due("bearing 7999, frame 1", pairs(-1, -1, 1).given(0, 1), 0);
        due("bearing 7999, frame 2", pairs(-1, -1, 2).given(0, 1), 7999);
        due("bearing 7999, frame 7999", pairs(-1, -1, 7999).given(0, 1), 2);
    }

    // ---- wires

    private static void wiresAtFirst() {
        sentence("There are four wires, 0 to 3; at first none is hung.");
        for (int wire = 0; wire <= 3; wire++) {
            PlumbShaft shaft = new PlumbShaft();
            due("wire(" + wire + ", 0)", shaft.wire(wire, 0), NONE);
            due("hang(" + wire + ")", shaft.hang(wire, 7, 0, 1, 10), 1);
            for (int other = 0; other <= 3; other++) {
                due("wire(" + other + ", 0)", shaft.wire(other, 0), other == wire ? 7 : NONE);
            }
        }
    }

    private static void zeroWhenHung() {
        sentence("a clamp error (ex and ey, -20 to 20; 0 when it is hung), a bucket (0 when it is hung), and a sway:"
                + " a direction (0 when it is hung), an amplitude (0 when it is hung) and a phase (0 when it is hung)");
        PlumbShaft shaft = new PlumbShaft();
        for (int again = 0; again < 3; again++) {
            shaft.hang(2, 1, 2, 3, 100);
            for (int what = 4; what <= 9; what++) {
                due("wire(2, " + what + ")", shaft.wire(2, what), 0);
            }
            shaft.setClamp(2, -20, 20);
            shaft.setBucket(2, 2);
            shaft.push(2, 7, 500);
            shaft.pass(3);
            if (again == 1) {
                shaft.lift(2);
            }
        }
    }

    private static void directions() {
        sentence("The directions 0 to 7 are (1, 0), (1, 1), (0, 1), (-1, 1), (-1, 0), (-1, -1), (0, -1) and (1, -1),"
                + " each as x and y.");
        int[][] directions = {{1, 0}, {1, 1}, {0, 1}, {-1, 1}, {-1, 0}, {-1, -1}, {0, -1}, {1, -1}};
        for (int d = 0; d < 8; d++) {
            PlumbShaft shaft = new PlumbShaft();
            shaft.hang(0, 0, 0, 1, 10);
            shaft.push(0, d, 1);
            shaft.pass(1);
            due("x to " + d, shaft.position(0, 10, 0), directions[d][0]);
            due("y to " + d, shaft.position(0, 10, 1), directions[d][1]);
        }
    }

    // ---- currents

    private static PlumbShaft inCurrent(int a, int b, int mass, int depth, int force) {
        PlumbShaft shaft = new PlumbShaft();
        shaft.hang(0, 0, 0, mass, depth);
        shaft.addCurrent(a, b, force, -force);
        return shaft;
    }

    private static void rangeOfCurrent() {
        sentence("where o is min(b, z) - min(a, z)");
        PlumbShaft shaft = inCurrent(100, 200, 1, 800, 1);
        int[][] bent = {{0, 0}, {99, 0}, {100, 0}, {101, 1}, {102, 2}, {199, 197}, {200, 200}, {201, 201}, {202, 202},
            {800, 800}};
        // what is rounded away: 101, 204, 197.01
        int[][] back = {{0, 0}, {100, 0}, {101, -2}, {102, -3}, {199, -198}, {200, -200}, {201, -201}, {800, -800}};
        for (int[] b : bent) {
            due("x at " + b[0], shaft.rest(0, b[0], 0), b[1]);
        }
        for (int[] b : back) {
            due("y at " + b[0], shaft.rest(0, b[0], 1), b[1]);
        }
        shaft = inCurrent(0, 1, 1, 800, 50);
        int[][] top = {{0, 0}, {1, 0}, {2, 1}, {3, 1}, {4, 2}, {800, 400}};
        for (int[] t : top) {
            due("in the first meter, at " + t[0], shaft.rest(0, t[0], 0), t[1]);
        }
        due("in the first meter, y at 1", shaft.rest(0, 1, 1), -1);
        shaft = inCurrent(799, 800, 1, 800, 50);
        due("in the last meter, at 799", shaft.rest(0, 799, 0), 0);
        due("in the last meter, at 800", shaft.rest(0, 800, 0), 400);
    }

    private static void bendsUpToTheDepth() {
        sentence("At the depth z (up to its depth), a wire is bent by the sum, over all currents");
        PlumbShaft shaft = inCurrent(0, 800, 1, 50, 50);
        due("at 49", shaft.rest(0, 49, 0), 1200);
        due("at 50", shaft.rest(0, 50, 0), 1250);
        due("at 51", shaft.rest(0, 51, 0), NONE);
        due("position at 50", shaft.position(0, 50, 1), -1250);
        due("position at 51", shaft.position(0, 51, 1), NONE);
        for (int n = 2; n <= 5; n++) {
            due("current " + n, shaft.addCurrent(0, 800, 50, -50), n);
            due("x in " + n + " currents", shaft.rest(0, 50, 0), 1250 * n);
            due("y in " + n + " currents", shaft.rest(0, 50, 1), -1250 * n);
        }
        shaft.clearCurrents();
        due("in no current", shaft.rest(0, 50, 0), 0);
    }

    private static void eachQuotientByItself() {
        sentence("each of these quotients is rounded down by itself");
        // 15 / 30 and -15 / 30 each
        PlumbShaft shaft = inCurrent(0, 1, 3, 10, 15);
        due("half", shaft.rest(0, 10, 0), 0);
        due("less half", shaft.rest(0, 10, 1), -1);
        shaft.addCurrent(0, 1, 15, -15);
        due("two halves", shaft.rest(0, 10, 0), 0);
        due("less two halves", shaft.rest(0, 10, 1), -2);
        shaft.addCurrent(0, 1, -15, 15);
        due("two halves less one", shaft.rest(0, 10, 0), -1);
        due("one half less two", shaft.rest(0, 10, 1), -2);
    }

    private static void restSum() {
        sentence("The rest of a wire at the depth z is its place plus its clamp error plus what it is bent there.");
        PlumbShaft shaft = inCurrent(0, 1, 1, 100, 2);
        shaft.hang(0, -5000, 5000, 1, 100);
        shaft.setClamp(0, -20, 20);
        due("x at 0", shaft.rest(0, 0, 0), -5020);
        due("y at 0", shaft.rest(0, 0, 1), 5020);
        due("x at 100", shaft.rest(0, 100, 0), -5018);
        due("y at 100", shaft.rest(0, 100, 1), 5018);
    }

    // ---- sway

    private static void periods() {
        sentence("The period of a wire is 4 * q ticks, with q = 1 + depth / 100.");
        PlumbShaft shaft = new PlumbShaft();
        shaft.hang(0, 0, 0, 1, 10);
        due("period at 10", shaft.wire(0, 10), 4);
        for (int hundred = 1; hundred <= 8; hundred++) {
            int[] depths = {100 * hundred - 1, 100 * hundred, 100 * hundred + 1};
            for (int depth : depths) {
                if (depth <= 800) {
                    int period = depth < 100 * hundred ? 4 * hundred : 4 * hundred + 4;
                    shaft.hang(0, 0, 0, 1, depth);
                    due("period at " + depth, shaft.wire(0, 10), period);
                    due("push at " + depth, shaft.push(0, 0, 1), period);
                }
            }
        }
    }

    private static void swings() {
        sentence("At the phase p its swing is A * p / q if p is less than q, A * (2 * q - p) / q if p is less than"
                + " 3 * q, and otherwise A * (p - 4 * q) / q, with the amplitude A (these quotients are rounded"
                + " towards zero).");
        int[] swings = {0, 55, 111, 166, 222, 277, 333, 388, 444, 500, 444, 388, 333, 277, 222, 166, 111, 55,
            0, -55, -111, -166, -222, -277, -333, -388, -444, -500, -444, -388, -333, -277, -222, -166, -111, -55};
        PlumbShaft shaft = new PlumbShaft();
        shaft.hang(0, 0, 0, 1, 800);
        shaft.push(0, 0, 500);
        for (int phase = 0; phase < 36; phase++) {
            due("swing at the phase " + phase, shaft.position(0, 800, 0), swings[phase]);
            shaft.pass(1);
        }
        due("swing in the next period", shaft.position(0, 800, 0), 0);
        shaft.pass(1);
        due("swing at its phase 1: 475 / 9", shaft.position(0, 800, 0), 52);
        int[] shortest = {0, 500, 0, -500};
        shaft.hang(0, 0, 0, 1, 99);
        shaft.push(0, 2, 500);
        for (int phase = 0; phase < 4; phase++) {
            due("swing at the phase " + phase + " of 4", shaft.position(0, 99, 1), shortest[phase]);
            shaft.pass(1);
        }
    }

    private static void smallestSwings() {
        sentence("(these quotients are rounded towards zero)");
        // an amplitude of 1 swings only at q and 3 * q
        PlumbShaft shaft = new PlumbShaft();
        shaft.hang(0, 0, 0, 1, 200);
        shaft.push(0, 4, 1);
        int[] swings = {0, 0, 0, -1, 0, 0, 0, 0, 0, 1, 0, 0};
        for (int phase = 0; phase < 12; phase++) {
            due("x at the phase " + phase, shaft.position(0, 200, 0), swings[phase]);
            shaft.pass(1);
        }
    }

    private static void swayAtDepths() {
        sentence("Its position at the depth z is its rest there plus, for x and y, the component of its direction"
                + " times (swing * z / depth rounded towards zero).");
        int[][] left = {{0, 0}, {9, 0}, {10, 1}, {19, 1}, {20, 2}, {99, 9}, {100, 10}};
        for (int direction = 0; direction < 8; direction += 4) {
            PlumbShaft shaft = new PlumbShaft();
            shaft.hang(0, 0, 0, 1, 100);
            shaft.push(0, direction, 10);
            int sign = direction == 0 ? 1 : -1;
            for (int half = 0; half < 2; half++) {
                shaft.pass(half == 0 ? 2 : 4);
                for (int[] l : left) {
                    due("x at " + l[0], shaft.position(0, l[0], 0), sign * l[1]);
                    due("y at " + l[0], shaft.position(0, l[0], 1), 0);
                }
                sign = -sign;
            }
        }
    }

    private static void phasesWrap() {
        sentence("In each tick, the phase of each wire that is hung (also of one with the amplitude 0) becomes"
                + " (phase + 1) mod period");
        int[] depths = {10, 99, 100, 799, 800};
        int[] periods = {4, 4, 8, 32, 36};
        for (int i = 0; i < depths.length; i++) {
            PlumbShaft shaft = new PlumbShaft();
            shaft.hang(0, 0, 0, 1, depths[i]);
            shaft.hang(1, 0, 0, 1, depths[i]);
            shaft.push(1, 0, 500);
            for (int wire = 0; wire < 2; wire++) {
                due("phase at first", shaft.wire(wire, 9), 0);
            }
            shaft.pass(periods[i] - 1);
            for (int wire = 0; wire < 2; wire++) {
                due("the last phase at " + depths[i], shaft.wire(wire, 9), periods[i] - 1);
            }
            shaft.pass(1);
            for (int wire = 0; wire < 2; wire++) {
                due("the first phase at " + depths[i], shaft.wire(wire, 9), 0);
            }
            shaft.pass(1);
            due("the second phase", shaft.wire(0, 9), 1);
            due("the amplitude 0 stays", shaft.wire(0, 8), 0);
        }
    }

    private static void notHungDoesNotSway() {
        sentence("In each tick, the phase of each wire that is hung");
        PlumbShaft shaft = new PlumbShaft();
        shaft.hang(0, 0, 0, 1, 10);
        shaft.push(0, 0, 100);
        shaft.lift(0);
        shaft.pass(5);
        due("undo pass", shaft.undo(), 3);
        due("undo lift", shaft.undo(), 2);
        due("its phase", shaft.wire(0, 9), 0);
        due("its amplitude", shaft.wire(0, 8), 100);
    }

    private static void calming() {
        sentence("if it becomes 0, the amplitude becomes amplitude * k / 100, where k is 95, 70 or 50 for the buckets"
                + " 0, 1 and 2.");
        int[][] left = {{1, 0, 0, 0}, {2, 1, 1, 1}, {3, 2, 2, 1}, {9, 8, 6, 4}, {10, 9, 7, 5}, {11, 10, 7, 5},
            {19, 18, 13, 9}, {20, 19, 14, 10}, {21, 19, 14, 10}, {99, 94, 69, 49}, {100, 95, 70, 50},
            {101, 95, 70, 50}, {499, 474, 349, 249}, {500, 475, 350, 250}};
        for (int[] l : left) {
            for (int bucket = 0; bucket < 3; bucket++) {
                PlumbShaft shaft = new PlumbShaft();
                shaft.hang(3, 0, 0, 1, 100);
                shaft.setBucket(3, bucket);
                due("the phase becomes 0 by push", shaft.push(3, 0, l[0]), 8);
                due("its amplitude", shaft.wire(3, 8), l[0]);
                shaft.pass(7);
                due("at the last phase", shaft.wire(3, 8), l[0]);
                shaft.pass(1);
                due(l[0] + " in the bucket " + bucket, shaft.wire(3, 8), l[1 + bucket]);
                shaft.pass(1);
                due("at the phase 1", shaft.wire(3, 8), l[1 + bucket]);
            }
        }
    }

    private static void bucketWhenThePeriodEnds() {
        sentence("where k is 95, 70 or 50 for the buckets 0, 1 and 2.");
        PlumbShaft shaft = new PlumbShaft();
        shaft.hang(0, 0, 0, 1, 10);
        shaft.setBucket(0, 2);
        shaft.push(0, 0, 100);
        shaft.pass(3);
        shaft.setBucket(0, 1);
        shaft.pass(1);
        due("water just before it", shaft.wire(0, 8), 70);
        shaft.setBucket(0, 2);
        due("oil just after it", shaft.wire(0, 8), 70);
        shaft.pass(4);
        due("oil", shaft.wire(0, 8), 35);
    }

    // ---- stations, observing

    private static void orientationStays() {
        sentence("an orientation or none (at first none; it stays, whatever becomes void, until the station is"
                + " oriented again)");
        PlumbShaft shaft = pairs(0, 0, 7995);
        due("at first", shaft.station(0, 2), NONE);
        due("oriented", shaft.orient(0), 5);
        shaft.addCurrent(0, 800, 50, 50);
        due("all void", shaft.count(5), 0);
        due("it stays", shaft.station(0, 2), 5);
        due("refused", shaft.orient(0), REFUSED);
        due("it stays", shaft.station(0, 2), 5);
        for (int wire = 0; wire < 4; wire++) {
            shaft.lift(wire);
        }
        due("it stays", shaft.station(0, 2), 5);
        due("oriented", shaft.count(4), 1);
        for (int wire = 0; wire < 4; wire++) {
            shaft.hang(wire, 0, 10 * wire, 1, 10);
            shaft.observe(wire, 0, 1);
        }
        due("it stays", shaft.station(0, 2), 5);
        due("oriented again", shaft.orient(0), 5);
        shaft.hang(1, 0, -1, 1, 10);
        shaft.hang(3, 0, 19, 1, 10);
        shaft.observe(1, 0, 1);
        shaft.observe(3, 0, 1);
        due("oriented again", shaft.orient(0), 5);
        due("the stations' own", shaft.addStation(1, 0), 1);
        due("of the new one", shaft.station(1, 2), NONE);
    }

    private static void readsThenTicks() {
        sentence("in each of these ticks, first the position of the wire at the depth of the station is read, then"
                + " the tick passes.");
        PlumbShaft shaft = new PlumbShaft();
        shaft.hang(0, 0, 0, 1, 10);
        shaft.addStation(10, 0);
        shaft.push(0, 0, 100);
        shaft.pass(3);
        // at the phase 3 with the amplitude 100; the tick then makes it 95
        due("one tick", shaft.observe(0, 0, 1), 0);
        due("its mean", shaft.observation(0, 0, 0), -100);
        due("the amplitude then", shaft.wire(0, 8), 95);
        due("the phase then", shaft.wire(0, 9), 0);
        due("two ticks", shaft.observe(0, 0, 2), 95);
        due("their mean: 0 and 95", shaft.observation(0, 0, 0), 47);
        due("time", shaft.count(0), 6);
    }

    private static void spreads() {
        sentence("the spread: the greatest difference of two readings in x or in y, whichever is more");
        int[][] pushes = {{0, 20}, {2, 20}, {4, 20}, {6, 20}, {1, 20}};
        for (int[] p : pushes) {
            PlumbShaft shaft = new PlumbShaft();
            shaft.hang(0, -3, 4, 1, 10);
            shaft.addStation(10, 0);
            shaft.push(0, p[0], p[1]);
            due("one reading", shaft.observe(0, 0, 1), 0);
            shaft.push(0, p[0], p[1]);
            due("two readings", shaft.observe(0, 0, 2), 20);
            shaft.push(0, p[0], p[1]);
            due("three readings", shaft.observe(0, 0, 3), 20);
            shaft.push(0, p[0], p[1]);
            due("four readings", shaft.observe(0, 0, 4), 40);
            due("as told", shaft.observation(0, 0, 2), 40);
        }
    }

    /** Four wires, two stations, one current, and all eight observations; the history is full. */
    private static PlumbShaft allObserved() {
        PlumbShaft shaft = new PlumbShaft();
        shaft.addCurrent(700, 800, 1, 1);
        shaft.addStation(10, 0);
        shaft.addStation(5, 0);
        for (int wire = 0; wire < 4; wire++) {
            shaft.hang(wire, 10 * wire, wire * wire, 1, 10);
            shaft.setClamp(wire, 3, 4);
            shaft.setBucket(wire, 1);
            shaft.observe(wire, 0, 1);
            shaft.observe(wire, 1, 2);
        }
        return shaft;
    }

    /** Which observations are not void: a bit for each wire, at both stations. */
    private static int seen(PlumbShaft shaft) {
        int bits = 0;
        for (int wire = 0; wire < 4; wire++) {
            int first = shaft.observation(0, wire, 3);
            int second = shaft.observation(1, wire, 3);
            due("at both stations or at none", (first == NONE) == (second == NONE) ? 1 : 0, 1);
            bits |= first == NONE ? 0 : 1 << wire;
        }
        int kept = Integer.bitCount(bits);
        due("count(5)", shaft.count(5), 2 * kept);
        due("station(0, 3)", shaft.station(0, 3), kept);
        due("station(1, 3)", shaft.station(1, 3), kept);
        return bits;
    }

    private static void latestIsKept() {
        sentence("The latest observation of each wire at each station is kept");
        PlumbShaft shaft = new PlumbShaft();
        for (int i = 0; i < 5; i++) {
            shaft.addStation(i + 1, 0);
        }
        for (int wire = 0; wire < 4; wire++) {
            shaft.hang(wire, 100 * wire, 0, 1, 10);
        }
        int n = 0;
        for (int station = 0; station < 5; station++) {
            for (int wire = 0; wire < 4; wire++) {
                shaft.observe(wire, station, 1 + n);
                n++;
                due("observations", shaft.count(5), n);
            }
        }
        for (int station = 0; station < 5; station++) {
            due("of the station " + station, shaft.station(station, 3), 4);
            for (int wire = 0; wire < 4; wire++) {
                due("x", shaft.observation(station, wire, 0), 100 * wire);
                due("ticks", shaft.observation(station, wire, 3), 1 + 4 * station + wire);
            }
        }
        shaft.observe(3, 4, 60);
        due("observations", shaft.count(5), 20);
        due("the latest", shaft.observation(4, 3, 3), 60);
        due("the one before it", shaft.observation(4, 2, 3), 19);
    }

    private static void voidByWire() {
        sentence("until the wire is hung anew, lifted, or swapped, gets another clamp error or another bucket (than"
                + " it has), or is pushed");
        due("all", seen(allObserved()), 15);
        for (int wire = 0; wire < 4; wire++) {
            int others = 15 - (1 << wire);
            PlumbShaft shaft = allObserved();
            shaft.hang(wire, 10 * wire, wire * wire, 1, 10);
            due("hung anew, as it was", seen(shaft), others);
            shaft = allObserved();
            shaft.lift(wire);
            due("lifted", seen(shaft), others);
            shaft = allObserved();
            shaft.push(wire, 0, 1);
            due("pushed", seen(shaft), others);
            shaft = allObserved();
            due("swapped", shaft.swap(wire, (wire + 1) % 4), 4);
            due("swapped", seen(shaft), others & (15 - (1 << (wire + 1) % 4)));
        }
    }

    private static void voidByClampAndBucket() {
        sentence("gets another clamp error or another bucket (than it has)");
        int[][] clamps = {{3, 4, 15}, {2, 4, 13}, {4, 4, 13}, {3, 3, 13}, {3, 5, 13}, {4, 3, 13}, {-3, -4, 13},
            {0, 0, 13}};
        for (int[] c : clamps) {
            PlumbShaft shaft = allObserved();
            shaft.setClamp(1, c[0], c[1]);
            due("setClamp(1, " + c[0] + ", " + c[1] + ")", seen(shaft), c[2]);
            shaft.setClamp(1, 3, 4);
            due("back again", seen(shaft), c[2]);
        }
        int[][] buckets = {{1, 15}, {0, 11}, {2, 11}};
        for (int[] b : buckets) {
            PlumbShaft shaft = allObserved();
            shaft.setBucket(2, b[0]);
            due("setBucket(2, " + b[0] + ")", seen(shaft), b[1]);
            shaft.setBucket(2, 1);
            due("back again", seen(shaft), b[1]);
        }
    }

    private static void voidByCurrents() {
        sentence("or a current is added or the currents are cleared; these make all observations of the wire (of all"
                + " wires, for the currents) at all stations void.");
        PlumbShaft shaft = allObserved();
        shaft.addCurrent(799, 800, 0, 0);
        due("a current without force, below all", seen(shaft), 0);
        shaft = allObserved();
        shaft.clearCurrents();
        due("cleared", seen(shaft), 0);
        for (int wire = 0; wire < 4; wire++) {
            shaft.observe(wire, 0, 1);
            shaft.observe(wire, 1, 1);
        }
        due("none to be cleared", shaft.clearCurrents(), NONE);
        due("none to be cleared", seen(shaft), 15);
    }

    private static void keptByAllElse() {
        sentence("is kept, until the wire is hung anew, lifted, or swapped");
        PlumbShaft shaft = allObserved();
        shaft.pass(60);
        shaft.setTolerance(500);
        shaft.addStation(1, 1);
        shaft.addStation(10, 1);
        shaft.observe(0, 2, 60);
        due("count(5)", shaft.count(5), 9);
        shaft.undo();
        shaft.orient(0);
        shaft.keep(0);
        due("kept", seen(shaft), 15);
        due("its ticks", shaft.observation(1, 3, 3), 2);
        due("when it ended", shaft.observation(1, 3, 4), 12);
        shaft = allObserved();
        shaft.hang(4, 0, 0, 1, 10);
        shaft.hang(0, 0, 0, 0, 10);
        shaft.setClamp(0, 21, 0);
        shaft.setBucket(0, 3);
        shaft.push(0, 0, 0);
        shaft.swap(0, 0);
        shaft.addCurrent(5, 5, 0, 0);
        due("kept by errors", seen(shaft), 15);
        shaft.push(0, 0, 1);
        shaft.undo();
        due("not void before push", seen(shaft), 15);
    }

    // ---- bearings

    private static void bearings() {
        sentence("The bearing of (dx, dy), which are not both 0, with m = |dx| + |dy|, is 2000 * dy / m if dx is above"
                + " 0 and dy at least 0");
        PlumbShaft shaft = new PlumbShaft();
        int[][] first = {{1, 0, 0}, {20000, 0, 0}, {1999, 1, 1}, {2000, 1, 0}, {1, 1, 1000}, {1, 1999, 1999},
            {1, 20000, 1999}};
        dueBearings(shaft, first);
        sentence("2000 + 2000 * (-dx) / m if dy is above 0 and dx at most 0");
        int[][] second = {{0, 1, 2000}, {0, 20000, 2000}, {-1, 1999, 2001}, {-1, 2000, 2000}, {-1, 1, 3000},
            {-1999, 1, 3999}, {-20000, 1, 3999}};
        dueBearings(shaft, second);
        sentence("4000 + 2000 * (-dy) / m if dx is below 0 and dy at most 0");
        int[][] third = {{-1, 0, 4000}, {-20000, 0, 4000}, {-1999, -1, 4001}, {-2000, -1, 4000}, {-1, -1, 5000},
            {-1, -1999, 5999}, {-1, -20000, 5999}};
        dueBearings(shaft, third);
        sentence("and otherwise 6000 + 2000 * dx / m.");
        int[][] fourth = {{0, -1, 6000}, {0, -20000, 6000}, {1, -1999, 6001}, {1, -2000, 6000}, {1, -1, 7000},
            {1999, -1, 7999}, {20000, -1, 7999}};
        dueBearings(shaft, fourth);
    }

    private static void dueBearings(PlumbShaft shaft, int[][] bearings) {
        for (int[] b : bearings) {
            due("bearing(" + b[0] + ", " + b[1] + ")", shaft.bearing(b[0], b[1]), b[2]);
        }
    }

    private static void pairsOfWires() {
        sentence("The wires 0 and 1 are the pair 0, the wires 2 and 3 the pair 1.");
        PlumbShaft shaft = new PlumbShaft();
        shaft.hang(0, 0, 0, 1, 10);
        shaft.hang(1, 1, 0, 1, 10);
        shaft.hang(2, 0, 1, 1, 10);
        due("surface(0)", shaft.surface(0), 0);
        due("surface(1), without 3", shaft.surface(1), NONE);
        shaft.hang(3, 0, 0, 1, 10);
        due("surface(1)", shaft.surface(1), 6000);
        shaft.lift(1);
        due("surface(0), without 1", shaft.surface(0), NONE);
        due("surface(1)", shaft.surface(1), 6000);
        shaft.lift(2);
        due("surface(1), without 2", shaft.surface(1), NONE);
        shaft.hang(1, 0, 1, 1, 10);
        due("surface(0)", shaft.surface(0), 2000);
        shaft.lift(0);
        due("surface(0), without 0", shaft.surface(0), NONE);
    }

    private static void differencesOnTheCircle() {
        sentence("The difference of the orientations r (of the pair 0) and s (of the pair 1) is (s - r + 4000) mod"
                + " 8000 - 4000.");
        // r 0 and s 7999, and the other way round
        PlumbShaft shaft = pairs(0, 1, 0);
        shaft.setTolerance(1);
        due("7999 - 0 is -1", shaft.orient(0), 7999);
        shaft = pairs(1, 0, 0);
        shaft.setTolerance(1);
        due("0 - 7999 is 1", shaft.orient(0), 7999);
        shaft = pairs(20, -20, 0);
        shaft.setTolerance(39);
        due("20 - 7980 is 40", shaft.orient(0), REFUSED);
        shaft.setTolerance(40);
        due("20 - 7980 is 40", shaft.orient(0), 0);
        shaft = pairs(-20, 20, 0);
        shaft.setTolerance(39);
        due("7980 - 20 is -40", shaft.orient(0), REFUSED);
        shaft.setTolerance(40);
        due("7980 - 20 is -40", shaft.orient(0), 0);
    }

    /** Pairs on the way to the opposite: the second wire of one is clamped so that below it lies behind the first. */
    private static void oppositePairs() {
        sentence("(s - r + 4000) mod 8000 - 4000");
        for (int pair = 0; pair < 2; pair++) {
            for (int ey = -1; ey <= 1; ey++) {
                PlumbShaft shaft = pairs(0, 0, 0);
                shaft.setTolerance(500);
                shaft.hang(2 * pair + 1, 10, 0, 1, 10);
                shaft.setClamp(2 * pair + 1, -20, ey);
                shaft.observe(2 * pair + 1, 0, 1);
                // the bearings below are 4181, 4000 and 3818
                int[] given = {8000 - 4181, 4000, 8000 - 3818};
                due("the pair " + pair + " gives", shaft.given(0, pair), given[ey + 1]);
                due("orient", shaft.orient(0), REFUSED);
                due("reason", shaft.count(8), 5);
            }
        }
    }

    private static void tolerances() {
        sentence("if the difference, without its sign, is at most the tolerance (0 to 500, at first 10)");
        int[][] pairs = {{0, -10, 0}, {0, -11, REFUSED}, {0, 10, 0}, {0, 11, REFUSED}, {5, -5, 0}, {5, -6, REFUSED}};
        for (int[] p : pairs) {
            PlumbShaft shaft = pairs(p[0], p[1], 100);
            int answer = shaft.orient(0);
            due("at first, " + p[0] + " and " + p[1], answer == REFUSED ? REFUSED : 0, p[2]);
            due("reason", shaft.count(8), p[2] == REFUSED ? 5 : 0);
            int difference = Math.abs(p[0] - p[1]);
            shaft.setTolerance(difference - 1);
            due("one less than the difference", shaft.orient(0), REFUSED);
            shaft.setTolerance(difference);
            due("as much as the difference", shaft.orient(0) >= 0 ? 1 : 0, 1);
            shaft.setTolerance(difference + 1);
            due("one more than the difference", shaft.orient(0) >= 0 ? 1 : 0, 1);
        }
        PlumbShaft shaft = pairs(0, 0, 0);
        shaft.setTolerance(0);
        due("no difference, no tolerance", shaft.orient(0), 0);
        shaft = pairs(0, 1, 0);
        shaft.setTolerance(0);
        due("the difference -1, no tolerance", shaft.orient(0), REFUSED);
        shaft = pairs(1, 0, 0);
        shaft.setTolerance(0);
        due("the difference 1, no tolerance", shaft.orient(0), REFUSED);
    }

    private static void greatestTolerance() {
        sentence("is at most the tolerance (0 to 500");
        // the pair 1 reads (3, 1) or (3, -1), the bearing 500 or 7500
        int[][] pairs = {{0, 1, 7750}, {-1, 1, REFUSED}, {1, 1, 7749}, {0, -1, 250}, {1, -1, REFUSED}, {-1, -1, 250}};
        for (int[] p : pairs) {
            PlumbShaft shaft = pairs(p[0], 0, 0);
            shaft.hang(3, 3, 0, 1, 10);
            shaft.setClamp(3, 0, p[1]);
            shaft.observe(3, 0, 1);
            shaft.setTolerance(500);
            due("pair 0 at " + p[0] + ", pair 1 at " + 500 * p[1], shaft.orient(0), p[2]);
        }
    }

    // ---- swapping

    private static void swapping() {
        sentence("To swap two wires exchanges their places; all else goes with the wires; their amplitudes become 0"
                + " and their phases, too.");
        PlumbShaft shaft = new PlumbShaft();
        shaft.hang(1, -5000, 5000, 1, 10);
        shaft.hang(2, 5000, -5000, 200, 800);
        shaft.setClamp(1, 20, -20);
        shaft.setBucket(2, 2);
        shaft.push(1, 7, 500);
        shaft.push(2, 6, 1);
        shaft.pass(3);
        due("swap", shaft.swap(1, 2), 0);
        int[] one = {5000, -5000, 1, 10, 20, -20, 0, 7, 0, 0, 4};
        int[] two = {-5000, 5000, 200, 800, 0, 0, 2, 6, 0, 0, 36};
        for (int what = 0; what <= 10; what++) {
            due("wire(1, " + what + ")", shaft.wire(1, what), one[what]);
            due("wire(2, " + what + ")", shaft.wire(2, what), two[what]);
        }
        due("swap back", shaft.swap(2, 1), 0);
        due("x", shaft.wire(1, 0), -5000);
        due("y", shaft.wire(2, 1), -5000);
    }

    public static void main(String[] args) {
        divisionsOfBending();
        divisionsOfMeans();
        divisionsOfDifferences();
        products();
        remainders();
        wiresAtFirst();
        zeroWhenHung();
        directions();
        rangeOfCurrent();
        bendsUpToTheDepth();
        eachQuotientByItself();
        restSum();
        periods();
        swings();
        smallestSwings();
        swayAtDepths();
        phasesWrap();
        notHungDoesNotSway();
        calming();
        bucketWhenThePeriodEnds();
        orientationStays();
        readsThenTicks();
        spreads();
        latestIsKept();
        voidByWire();
        voidByClampAndBucket();
        voidByCurrents();
        keptByAllElse();
        bearings();
        pairsOfWires();
        differencesOnTheCircle();
        oppositePairs();
        tolerances();
        greatestTolerance();
        swapping();
        System.out.println(wrong == 0 ? "edges of the terms: all as due"
                : "edges of the terms: " + wrong + " answers are not as due");
        if (wrong != 0) {
            System.exit(1);
        }
    }
}

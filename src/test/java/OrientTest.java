/** Promises 14, 27, 28 and 29: bearings, pairs at the surface and at stations, and stations that are oriented. */
public final class OrientTest {
    private static final int UNKNOWN = -100001;
    private static final int BAD_VALUE = -100002;
    private static final int REFUSED = -100003;
    private static final int NONE = -100005;
    private static final int MIN = Integer.MIN_VALUE;
    private static final int MAX = Integer.MAX_VALUE;

    private static int wrong = 0;

    private static void due(String call, int got, int want) {
        if (got != want) {
            wrong++;
            System.out.println(call + " answered " + got + ", due is " + want);
        }
    }

    private static void bearing() {
        int[][] bearings = {{1, 0, 0}, {1, 1, 1000}, {0, 1, 2000}, {-1, 1, 3000}, {-1, 0, 4000}, {-1, -1, 5000},
            {0, -1, 6000}, {1, -1, 7000}, {2, 1, 666}, {1, 2, 1333}, {-1, 2, 2666}, {-2, 1, 3333}, {-2, -1, 4666},
            {-1, -2, 5333}, {1, -2, 6666}, {2, -1, 7333}, {20000, -1, 7999}, {20000, 1, 0}, {-1, 20000, 2000},
            {-20000, -20000, 5000}, {20000, 20000, 1000}, {-20000, 20000, 3000}, {20000, -20000, 7000}};
        PlumbShaft shaft = new PlumbShaft();
        for (int[] b : bearings) {
            due("bearing(" + b[0] + ", " + b[1] + ")", shaft.bearing(b[0], b[1]), b[2]);
        }
        int[][] bad = {{0, 0}, {20001, 1}, {-20001, 1}, {1, 20001}, {1, -20001}, {MIN, 0}, {0, MAX}, {MIN, MIN}};
        for (int[] b : bad) {
            due("bearing(" + b[0] + ", " + b[1] + ")", shaft.bearing(b[0], b[1]), BAD_VALUE);
        }
        due("states", shaft.count(9), 0);
    }

    private static void surface() {
        PlumbShaft shaft = new PlumbShaft();
        int[] unknown = {-1, 2, MIN, MAX};
        for (int pair : unknown) {
            due("surface(" + pair + ")", shaft.surface(pair), UNKNOWN);
        }
        due("none hung", shaft.surface(0), NONE);
        shaft.hang(1, 10, 20, 1, 10);
        due("first not hung", shaft.surface(0), NONE);
        shaft.hang(0, 10, 20, 1, 10);
        due("same place", shaft.surface(0), NONE);
        shaft.hang(0, 10, 19, 1, 10);
        due("same x", shaft.surface(0), 2000);
        shaft.hang(0, 11, 20, 1, 10);
        due("same y", shaft.surface(0), 4000);
        due("the clamp plays no part", shaft.setClamp(0, 20, 20), 40);
        due("same y", shaft.surface(0), 4000);
        shaft.hang(2, 5000, 5000, 1, 10);
        due("second not hung", shaft.surface(1), NONE);
        shaft.hang(3, -5000, -5000, 1, 10);
        due("the other pair", shaft.surface(1), 5000);
        shaft.swap(0, 2);
        // (-4990, -4980): 2000 * 4980 / 9970 is 998.9
        due("after a swap", shaft.surface(0), 4998);
        due("after a swap", shaft.surface(1), 5000);
        shaft.lift(3);
        due("second not hung", shaft.surface(1), NONE);
        due("no reason", shaft.count(8), 0);
    }

    /** Two pairs of straight wires whose surface bearings are 0 and 2000, and a station with the frame 7000. */
    private static PlumbShaft twoPairs() {
        PlumbShaft shaft = new PlumbShaft();
        shaft.hang(0, 0, 0, 1, 100);
        shaft.hang(1, 1000, 0, 1, 100);
        shaft.hang(2, 0, 500, 1, 100);
        shaft.hang(3, 0, 1500, 1, 100);
        shaft.addStation(100, 7000);
        return shaft;
    }

    private static void observeAll(PlumbShaft shaft, int station) {
        for (int wire = 0; wire < 4; wire++) {
            shaft.observe(wire, station, 1);
        }
    }

    private static void given() {
        PlumbShaft shaft = twoPairs();
        int[][] unknown = {{-1, 0}, {1, 0}, {5, 0}, {0, -1}, {0, 2}, {MIN, MAX}};
        for (int[] u : unknown) {
            due("given(" + u[0] + ", " + u[1] + ")", shaft.given(u[0], u[1]), UNKNOWN);
        }
        due("not observed", shaft.given(0, 0), NONE);
        shaft.observe(0, 0, 1);
        due("one observed", shaft.given(0, 0), NONE);
        shaft.observe(1, 0, 1);
        due("pair 0", shaft.given(0, 0), 1000);
        due("pair 1", shaft.given(0, 1), NONE);
        shaft.observe(3, 0, 1);
        due("the second one observed", shaft.given(0, 1), NONE);
        shaft.observe(2, 0, 1);
        due("pair 1", shaft.given(0, 1), 1000);
        due("not oriented by this", shaft.station(0, 2), NONE);
        // 0 and 1 read a line (1000, 20), the bearing 39
        shaft.setClamp(1, 0, 20);
        shaft.observe(1, 0, 1);
        due("clamp off", shaft.given(0, 0), 1000 - 39);
        shaft.setClamp(1, 0, -20);
        shaft.observe(1, 0, 1);
        due("clamp off", shaft.given(0, 0), 1000 + 40);
        shaft.lift(0);
        due("not hung", shaft.given(0, 0), NONE);
        shaft.lift(3);
        due("not hung", shaft.given(0, 1), NONE);
        due("no reason", shaft.count(8), 0);
    }

    private static void orient() {
        PlumbShaft shaft = twoPairs();
        shaft.addStation(50, 0);
        observeAll(shaft, 0);
        due("orient(0)", shaft.orient(0), 1000);
        due("its orientation", shaft.station(0, 2), 1000);
        due("the other one's", shaft.station(1, 2), NONE);
        due("oriented", shaft.count(4), 1);
        observeAll(shaft, 1);
        due("orient(1)", shaft.orient(1), 0);
        due("oriented", shaft.count(4), 2);
        due("observations", shaft.count(5), 8);
        int states = shaft.count(9);
        shaft.addCurrent(0, 1, 1, 1);
        due("void", shaft.orient(0), REFUSED);
        due("reason", shaft.count(8), 3);
        due("the orientation stays", shaft.station(0, 2), 1000);
        shaft.lift(0);
        due("not hung", shaft.orient(0), REFUSED);
        due("reason", shaft.count(8), 1);
        due("the orientation stays", shaft.station(0, 2), 1000);
        due("states", shaft.count(9), states);
        int[] unknown = {-1, 2, 5, MIN, MAX};
        for (int station : unknown) {
            due("orient(" + station + ")", shaft.orient(station), UNKNOWN);
        }
        due("the reason stays", shaft.count(8), 1);
    }

    /** Differences of the pairs, at the tolerance and beyond it. */
    private static void agreement() {
        PlumbShaft shaft = twoPairs();
        observeAll(shaft, 0);
        // pair 0 gives 961, pair 1 gives 1000
        shaft.setClamp(1, 0, 20);
        shaft.observe(1, 0, 1);
        due("39 is more than 10", shaft.orient(0), REFUSED);
        due("reason", shaft.count(8), 5);
        shaft.setTolerance(38);
        due("39 is more than 38", shaft.orient(0), REFUSED);
        due("not oriented", shaft.count(4), 0);
        shaft.setTolerance(39);
        due("39 is at most 39", shaft.orient(0), 961 + 19);
        // pair 0 gives 1000 + 40, so that the difference is -40
        shaft.setClamp(1, 0, -20);
        shaft.observe(1, 0, 1);
        due("-40 is more than 39", shaft.orient(0), REFUSED);
        due("reason", shaft.count(8), 5);
        due("the orientation stays", shaft.station(0, 2), 980);
        shaft.setTolerance(40);
        due("-40 is at most 40", shaft.orient(0), 1040 - 20);
        // pair 1 reads a line (-7, 1000), the bearing 2013, so that the difference is -53
        shaft.setTolerance(53);
        shaft.setClamp(3, -7, 0);
        shaft.observe(3, 0, 1);
        due("pair 1", shaft.given(0, 1), 987);
        due("-53 / 2 rounds down", shaft.orient(0), 1040 - 27);
    }

    /** Orientations on both sides of 0. */
    private static void agreementAcrossZero() {
        PlumbShaft shaft = twoPairs();
        shaft.addStation(100, 0);
        shaft.addStation(100, 8);
        shaft.setTolerance(50);
        shaft.setClamp(1, 0, 20);
        observeAll(shaft, 1);
        due("pair 0", shaft.given(1, 0), 8000 - 39);
        due("pair 1", shaft.given(1, 1), 0);
        due("orient", shaft.orient(1), 8000 - 39 + 19);
        shaft.setClamp(1, 0, 0);
        shaft.setClamp(3, 20, 0);
        // pair 1 reads a line (20, 1000), the bearing 1960
        observeAll(shaft, 1);
        due("pair 0", shaft.given(1, 0), 0);
        due("pair 1", shaft.given(1, 1), 40);
        due("orient", shaft.orient(1), 20);
        shaft.setClamp(3, -20, 0);
        // 2039
        observeAll(shaft, 1);
        due("pair 1", shaft.given(1, 1), 8000 - 39);
        due("orient", shaft.orient(1), 8000 - 20);
        shaft.setClamp(1, 0, -20);
        shaft.setClamp(3, 0, 0);
        observeAll(shaft, 2);
        due("pair 0", shaft.given(2, 0), 32);
        due("pair 1", shaft.given(2, 1), 8000 - 8);
        due("orient", shaft.orient(2), 12);
    }

    /** A current bends light wires so that their pair reads the opposite of its bearing at the surface. */
    private static void opposite() {
        PlumbShaft shaft = new PlumbShaft();
        shaft.hang(0, 0, 0, 1, 100);
        shaft.hang(1, 100, 0, 200, 100);
        shaft.hang(2, 0, 0, 200, 100);
        shaft.hang(3, 100, 0, 200, 100);
        shaft.addCurrent(0, 100, 50, 0);
        shaft.addStation(100, 0);
        observeAll(shaft, 0);
        due("pair 0", shaft.given(0, 0), 4000);
        due("pair 1", shaft.given(0, 1), 0);
        shaft.setTolerance(500);
        due("orient", shaft.orient(0), REFUSED);
        due("reason", shaft.count(8), 5);
    }

    /** Means that lie so far apart that 2000 times as much is beyond an int. */
    private static void farApart() {
        PlumbShaft shaft = new PlumbShaft();
        shaft.hang(0, 0, 0, 1, 800);
        shaft.hang(1, 100, 0, 200, 800);
        for (int i = 0; i < 5; i++) {
            shaft.addCurrent(0, 800, -50, -25);
        }
        shaft.addStation(800, 0);
        shaft.observe(0, 0, 60);
        shaft.observe(1, 0, 60);
        due("mean x", shaft.observation(0, 0, 0), -1600000);
        due("mean y", shaft.observation(0, 0, 1), -800000);
        due("mean x", shaft.observation(0, 1, 0), 100 - 8000);
        due("mean y", shaft.observation(0, 1, 1), -4000);
        // (1592100, 796000): 2000 * 796000 / 2388100 is 666.6
        due("pair 0", shaft.given(0, 0), 8000 - 666);
    }

    private static void reasons() {
        PlumbShaft shaft = new PlumbShaft();
        shaft.addStation(10, 0);
        shaft.hang(0, 1, 1, 1, 10);
        shaft.hang(1, 1, 1, 1, 10);
        shaft.hang(2, 1, 1, 1, 10);
        shaft.observe(0, 0, 1);
        shaft.observe(1, 0, 1);
        due("1 of the pair 1 before 4 of the pair 0", shaft.orient(0), REFUSED);
        due("reason", shaft.count(8), 1);
        shaft.hang(3, 2, 1, 1, 10);
        shaft.observe(3, 0, 1);
        due("3 of the pair 1 before 4 of the pair 0", shaft.orient(0), REFUSED);
        due("reason", shaft.count(8), 3);
        due("4 for the pair 0", shaft.given(0, 0), NONE);
        shaft.observe(2, 0, 1);
        due("4 of the pair 0", shaft.orient(0), REFUSED);
        due("reason", shaft.count(8), 4);
        due("the pair 1 alone is right", shaft.given(0, 1), 0);
        shaft.hang(0, 0, 1, 1, 10);
        due("3 of the pair 0", shaft.orient(0), REFUSED);
        due("reason", shaft.count(8), 3);
        shaft.observe(0, 0, 1);
        due("right", shaft.orient(0), 0);
        due("the reason stays", shaft.count(8), 3);
        shaft.lift(1);
        due("1 of the pair 0", shaft.orient(0), REFUSED);
        due("reason", shaft.count(8), 1);
    }

    /** Both wires of a pair at the same place, at the surface alone or by their observations alone. */
    private static void samePlace() {
        PlumbShaft shaft = twoPairs();
        shaft.hang(3, 0, 500, 1, 100);
        shaft.setClamp(3, 1, 0);
        observeAll(shaft, 0);
        due("at the surface", shaft.given(0, 1), NONE);
        due("at the surface", shaft.orient(0), REFUSED);
        due("reason", shaft.count(8), 4);
        shaft.hang(3, 1, 500, 1, 100);
        shaft.setClamp(3, -1, 0);
        observeAll(shaft, 0);
        due("its bearing at the surface", shaft.surface(1), 0);
        due("by the observations", shaft.given(0, 1), NONE);
        shaft.lift(0);
        due("reason 1 first", shaft.orient(0), REFUSED);
        due("reason", shaft.count(8), 1);
        shaft.hang(0, 0, 0, 1, 100);
        shaft.observe(0, 0, 1);
        due("by the observations", shaft.orient(0), REFUSED);
        due("reason", shaft.count(8), 4);
        shaft.setClamp(3, 0, 0);
        shaft.observe(3, 0, 1);
        due("same y alone is right", shaft.given(0, 1), 1000);
    }

    public static void main(String[] args) {
        bearing();
        surface();
        given();
        orient();
        agreement();
        agreementAcrossZero();
        opposite();
        farApart();
        reasons();
        samePlace();
        System.out.println(wrong == 0 ? "orient: all as due" : "orient: " + wrong + " answers are not as due");
        if (wrong != 0) {
            System.exit(1);
        }
    }
}

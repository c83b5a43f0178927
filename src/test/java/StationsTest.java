/** Promises 10, 11, 13, 25 and 26: stations, the tolerance, and wires that are observed. */
public final class StationsTest {
    private static final int UNKNOWN = -100001;
    private static final int BAD_VALUE = -100002;
    private static final int REFUSED = -100003;
    private static final int FULL = -100004;
    private static final int NONE = -100005;
    private static final int MIN = Integer.MIN_VALUE;
    private static final int MAX = Integer.MAX_VALUE;

    private static int wrong = 0;

    private static void due(String call, int got, int want) {
        if (got != want) {
            wrong++;
            System.out.println(call + " answered " + got + ", due is " + want);
        }
    }

    /** The properties 0 to 4 of an observation, in their order. */
    private static void dueSeen(String when, PlumbShaft shaft, int station, int wire, int... properties) {
        for (int what = 0; what < properties.length; what++) {
            due(when + ": observation(" + station + ", " + wire + ", " + what + ")",
                    shaft.observation(station, wire, what), properties[what]);
        }
    }

    private static void addStation() {
        PlumbShaft shaft = new PlumbShaft();
        int[][] bad = {{0, 0}, {-1, 0}, {801, 0}, {MIN, 0}, {1, -1}, {1, 8000}, {1, MAX}, {1, MIN}};
        for (int[] b : bad) {
            due("bad", shaft.addStation(b[0], b[1]), BAD_VALUE);
        }
        due("states", shaft.count(9), 0);
        due("first", shaft.addStation(1, 7999), 0);
        due("second", shaft.addStation(800, 0), 1);
        due("third", shaft.addStation(800, 0), 2);
        due("fourth", shaft.addStation(30, 31), 3);
        due("fifth", shaft.addStation(40, 41), 4);
        due("sixth", shaft.addStation(50, 51), FULL);
        due("sixth, bad", shaft.addStation(0, 51), BAD_VALUE);
        due("stations", shaft.count(3), 5);
        due("states", shaft.count(9), 5);
        due("undo", shaft.undo(), 4);
        due("fifth gone", shaft.station(4, 0), UNKNOWN);
        due("fifth anew", shaft.addStation(60, 61), 4);
        due("its depth", shaft.station(4, 0), 60);
    }

    private static void tellStations() {
        PlumbShaft shaft = new PlumbShaft();
        due("none yet", shaft.station(0, 0), UNKNOWN);
        due("none yet, bad", shaft.station(0, 4), UNKNOWN);
        shaft.addStation(1, 7999);
        shaft.addStation(300, 31);
        due("depth", shaft.station(0, 0), 1);
        due("frame", shaft.station(0, 1), 7999);
        due("depth", shaft.station(1, 0), 300);
        due("frame", shaft.station(1, 1), 31);
        due("orientation", shaft.station(1, 2), NONE);
        due("observations", shaft.station(1, 3), 0);
        due("bad", shaft.station(1, 4), BAD_VALUE);
        due("bad", shaft.station(1, -1), BAD_VALUE);
        due("bad", shaft.station(1, MAX), BAD_VALUE);
        due("unknown", shaft.station(2, 0), UNKNOWN);
        due("unknown", shaft.station(-1, 0), UNKNOWN);
        due("unknown", shaft.station(MIN, 4), UNKNOWN);
        shaft.hang(0, 0, 0, 1, 300);
        shaft.hang(2, 0, 0, 1, 299);
        shaft.observe(0, 0, 1);
        shaft.observe(2, 0, 1);
        shaft.observe(2, 0, 2);
        shaft.observe(0, 1, 1);
        due("observations", shaft.station(0, 3), 2);
        due("observations", shaft.station(1, 3), 1);
        due("all observations", shaft.count(5), 3);
        shaft.push(0, 0, 1);
        due("observations", shaft.station(0, 3), 1);
        due("observations", shaft.station(1, 3), 0);
        due("all observations", shaft.count(5), 1);
    }

    private static void setTolerance() {
        PlumbShaft shaft = new PlumbShaft();
        due("at first", shaft.setTolerance(0), 10);
        due("then", shaft.setTolerance(500), 0);
        due("bad", shaft.setTolerance(501), BAD_VALUE);
        due("bad", shaft.setTolerance(-1), BAD_VALUE);
        due("bad", shaft.setTolerance(MIN), BAD_VALUE);
        due("bad", shaft.setTolerance(MAX), BAD_VALUE);
        due("tolerance", shaft.count(6), 500);
        due("states", shaft.count(9), 2);
        due("the same", shaft.setTolerance(500), 500);
        due("states", shaft.count(9), 3);
    }

    private static void observeAtRest() {
        PlumbShaft shaft = new PlumbShaft();
        shaft.hang(3, -70, 80, 1, 50);
        shaft.setClamp(3, -5, 6);
        shaft.addStation(50, 0);
        due("60 ticks", shaft.observe(3, 0, 60), 0);
        dueSeen("at rest", shaft, 0, 3, -75, 86, 0, 60, 60);
        due("one tick", shaft.observe(3, 0, 1), 0);
        dueSeen("the latest is kept", shaft, 0, 3, -75, 86, 0, 1, 61);
        due("ticks of observations", shaft.count(7), 61);
        shaft.pass(9);
        dueSeen("it stays", shaft, 0, 3, -75, 86, 0, 1, 61);
        due("ticks of observations", shaft.count(7), 61);
        due("time", shaft.count(0), 70);
    }

    private static void observeASway() {
        PlumbShaft shaft = new PlumbShaft();
        shaft.hang(0, 0, 0, 1, 10);
        shaft.hang(1, 0, 0, 1, 100);
        shaft.addStation(10, 0);
        shaft.push(0, 1, 100);
        shaft.push(1, 3, 100);
        // read first, at 0, 100, 0, then a tick: the phase is 3
        due("three ticks", shaft.observe(0, 0, 3), 100);
        dueSeen("0, 100, 0", shaft, 0, 0, 33, 33, 100, 3, 3);
        due("phase", shaft.wire(0, 9), 3);
        due("phase of the other one", shaft.wire(1, 9), 3);
        // -100, 0, 95, 0, -95
        due("five ticks", shaft.observe(0, 0, 5), 195);
        dueSeen("-100 to 95", shaft, 0, 0, -20, -20, 195, 5, 8);
        // a tenth of the swings 0, 50, 100 and 50
        shaft.push(1, 3, 100);
        due("four ticks", shaft.observe(1, 0, 4), 10);
        dueSeen("0, 5, 10, 5", shaft, 0, 1, -5, 5, 10, 4, 12);
    }

    private static void meansRoundDown() {
        PlumbShaft shaft = new PlumbShaft();
        shaft.hang(0, -3, 7, 1, 10);
        shaft.addStation(10, 0);
        shaft.push(0, 4, 1);
        // x: -3, -4; y: 7, 7
        due("spread in x", shaft.observe(0, 0, 2), 1);
        dueSeen("x sways", shaft, 0, 0, -4, 7, 1, 2, 2);
        shaft.push(0, 6, 1);
        // y: 7, 6, 7, 8
        due("spread in y", shaft.observe(0, 0, 4), 2);
        dueSeen("y sways", shaft, 0, 0, -3, 7, 2, 4, 6);
        shaft.push(0, 6, 1);
        // y: 7, 6, 7
        due("spread in y", shaft.observe(0, 0, 3), 1);
        dueSeen("y sways", shaft, 0, 0, -3, 6, 1, 3, 9);
    }

    private static void observeWrongly() {
        PlumbShaft shaft = new PlumbShaft();
        due("no station", shaft.observe(0, 0, 1), UNKNOWN);
        shaft.addStation(20, 0);
        due("not hung", shaft.observe(0, 0, 1), REFUSED);
        due("reason", shaft.count(8), 1);
        shaft.hang(0, 0, 0, 1, 19);
        shaft.hang(1, 0, 0, 1, 20);
        due("too deep", shaft.observe(0, 0, 1), REFUSED);
        due("reason", shaft.count(8), 2);
        due("as deep", shaft.observe(1, 0, 1), 0);
        due("the reason stays", shaft.count(8), 2);
        int states = shaft.count(9);
        int[][] unknown = {{-1, 0}, {4, 0}, {0, -1}, {0, 1}, {0, 5}, {MIN, MAX}};
        for (int[] u : unknown) {
            due("unknown", shaft.observe(u[0], u[1], 1), UNKNOWN);
            due("unknown, bad", shaft.observe(u[0], u[1], 0), UNKNOWN);
        }
        int[] bad = {0, -1, 61, MIN, MAX};
        for (int ticks : bad) {
            due("bad", shaft.observe(1, 0, ticks), BAD_VALUE);
            due("bad, too deep", shaft.observe(0, 0, ticks), BAD_VALUE);
            due("bad, not hung", shaft.observe(2, 0, ticks), BAD_VALUE);
        }
        due("time", shaft.count(0), 1);
        due("states", shaft.count(9), states);
        due("observations", shaft.count(5), 1);
        due("reason", shaft.count(8), 2);
        due("not hung", shaft.observe(2, 0, 60), REFUSED);
        due("reason", shaft.count(8), 1);
    }

    private static void tellObservations() {
        PlumbShaft shaft = new PlumbShaft();
        due("no station", shaft.observation(0, 0, 0), UNKNOWN);
        shaft.addStation(20, 0);
        due("not hung", shaft.observation(0, 0, 0), NONE);
        due("bad, not hung", shaft.observation(0, 0, 5), BAD_VALUE);
        shaft.hang(1, 1, 2, 1, 20);
        due("never made", shaft.observation(0, 1, 4), NONE);
        shaft.pass(4);
        shaft.observe(1, 0, 7);
        dueSeen("made", shaft, 0, 1, 1, 2, 0, 7, 11);
        due("bad", shaft.observation(0, 1, 5), BAD_VALUE);
        due("bad", shaft.observation(0, 1, -1), BAD_VALUE);
        due("unknown station", shaft.observation(1, 1, 0), UNKNOWN);
        due("unknown station", shaft.observation(-1, 1, 5), UNKNOWN);
        due("unknown wire", shaft.observation(0, 4, 5), UNKNOWN);
        due("unknown wire", shaft.observation(0, -1, 0), UNKNOWN);
        due("another one", shaft.observation(0, 0, 0), NONE);
        shaft.addStation(20, 0);
        due("at another one", shaft.observation(1, 1, 0), NONE);
        due("no reason", shaft.count(8), 0);
    }

    public static void main(String[] args) {
        addStation();
        tellStations();
        setTolerance();
        observeAtRest();
        observeASway();
        meansRoundDown();
        observeWrongly();
        tellObservations();
        System.out.println(wrong == 0 ? "stations: all as due" : "stations: " + wrong + " answers are not as due");
        if (wrong != 0) {
            System.exit(1);
        }
    }
}

/** Promises 10 to 14 and 25 to 29, each range and each answer just at its boundary and just beside it. */
public final class StationsEdgesTest {
    private static final int UNKNOWN = -100001;
    private static final int BAD_VALUE = -100002;
    private static final int REFUSED = -100003;
    private static final int FULL = -100004;
    private static final int NONE = -100005;
    private static final int MIN = Integer.MIN_VALUE;
    private static final int MAX = Integer.MAX_VALUE;
    private static final int[] NO_WIRES = {-1, 4, 5, MIN, MAX};
    private static final int[] NO_PAIRS = {-1, 2, 3, MIN, MAX};

    private static int wrong = 0;
    private static String said = "";

    /** The promise, and what it says, that the next checks belong to. */
    private static void sentence(String quote) {
        said = quote;
    }

    private static void due(String call, int got, int want) {
        if (got != want) {
            wrong++;
            System.out.println("\"" + said + "\": " + call + " answered " + got + ", due is " + want);
        }
    }

    private static PlumbShaft withStations(int many) {
        PlumbShaft shaft = new PlumbShaft();
        for (int i = 0; i < many; i++) {
            shaft.addStation(10 + i, 100 * i);
        }
        return shaft;
    }

    /** Two pairs with the bearings 1000 and 1000 at the surface, and so many stations at 10 meters and below. */
    private static PlumbShaft withPairs(int stations) {
        PlumbShaft shaft = withStations(stations);
        shaft.hang(0, 0, 0, 1, 100);
        shaft.hang(1, 100, 100, 1, 100);
        shaft.hang(2, -50, 0, 1, 100);
        shaft.hang(3, 50, 100, 1, 100);
        return shaft;
    }

    private static void observeAll(PlumbShaft shaft, int station) {
        for (int wire = 0; wire < 4; wire++) {
            shaft.observe(wire, station, 1);
        }
    }

    // ---- 10: addStation

    private static void addStationRanges() {
        sentence("addStation: depth: 1 to 800; BAD_VALUE");
        int[] right = {1, 2, 799, 800};
        for (int depth : right) {
            PlumbShaft shaft = new PlumbShaft();
            due("depth " + depth, shaft.addStation(depth, 0), 0);
            due("then", shaft.station(0, 0), depth);
        }
        int[] bad = {0, -1, 801, 802, MIN, MAX};
        for (int depth : bad) {
            PlumbShaft shaft = new PlumbShaft();
            due("depth " + depth, shaft.addStation(depth, 0), BAD_VALUE);
            due("stations", shaft.count(3), 0);
        }
        sentence("addStation: frame: 0 to 7999; BAD_VALUE");
        int[] rightFrames = {0, 1, 7998, 7999};
        for (int frame : rightFrames) {
            PlumbShaft shaft = new PlumbShaft();
            due("frame " + frame, shaft.addStation(1, frame), 0);
            due("then", shaft.station(0, 1), frame);
        }
        int[] badFrames = {-1, -2, 8000, 8001, MIN, MAX};
        for (int frame : badFrames) {
            PlumbShaft shaft = new PlumbShaft();
            due("frame " + frame, shaft.addStation(1, frame), BAD_VALUE);
            due("stations", shaft.count(3), 0);
        }
    }

    private static void addStationFull() {
        sentence("addStation returns its number; FULL if there are 5.");
        PlumbShaft shaft = new PlumbShaft();
        for (int n = 0; n < 5; n++) {
            due("unknown so far", shaft.station(n, 0), UNKNOWN);
            due("station " + n, shaft.addStation(10 + n, n), n);
            due("count(3)", shaft.count(3), n + 1);
        }
        due("the sixth", shaft.addStation(20, 20), FULL);
        due("count(3)", shaft.count(3), 5);
        for (int n = 0; n < 5; n++) {
            due("depth of " + n, shaft.station(n, 0), 10 + n);
            due("frame of " + n, shaft.station(n, 1), n);
        }
        shaft.undo();
        due("the fifth again", shaft.addStation(20, 20), 4);
        due("the sixth", shaft.addStation(20, 20), FULL);
    }

    private static void addStationAfterUndo() {
        sentence("addStation: a station has an orientation or none (at first none)");
        PlumbShaft shaft = withPairs(1);
        observeAll(shaft, 0);
        shaft.orient(0);
        due("oriented", shaft.station(0, 2), 0);
        // the station 1 is added, observed, oriented, undone, and added again
        shaft.addStation(10, 5);
        String orders = "look 0 1 1;look 1 1 1;look 2 1 1;look 3 1 1;orient 1";
        for (int i = 0; i < orders.length(); i++) {
            shaft.type(orders.charAt(i));
        }
        due("five orders", shaft.runOrders(), 5);
        due("oriented", shaft.station(1, 2), 7995);
        shaft.undo();
        shaft.undo();
        due("gone", shaft.station(1, 2), UNKNOWN);
        due("added again", shaft.addStation(10, 5), 1);
        due("its orientation", shaft.station(1, 2), NONE);
        due("its observations", shaft.station(1, 3), 0);
        due("its observation", shaft.observation(1, 0, 0), NONE);
        due("oriented ones", shaft.count(4), 1);
        due("observations", shaft.count(5), 4);
    }

    // ---- 11: setTolerance

    private static void setTolerance() {
        sentence("setTolerance: tolerance: 0 to 500; returns the previous one; BAD_VALUE.");
        PlumbShaft shaft = new PlumbShaft();
        int[] right = {0, 1, 499, 500, 10, 0};
        int previous = 10;
        for (int tolerance : right) {
            due("setTolerance(" + tolerance + ")", shaft.setTolerance(tolerance), previous);
            due("count(6)", shaft.count(6), tolerance);
            previous = tolerance;
        }
        int[] bad = {-1, -2, 501, 502, MIN, MAX};
        for (int tolerance : bad) {
            due("setTolerance(" + tolerance + ")", shaft.setTolerance(tolerance), BAD_VALUE);
            due("count(6)", shaft.count(6), 0);
        }
    }

    // ---- 12: pass

    private static void pass() {
        sentence("pass: ticks: 1 to 60; returns the time then; BAD_VALUE.");
        PlumbShaft shaft = new PlumbShaft();
        int[] right = {1, 2, 59, 60, 1};
        int time = 0;
        for (int ticks : right) {
            time += ticks;
            due("pass(" + ticks + ")", shaft.pass(ticks), time);
            due("count(0)", shaft.count(0), time);
        }
        int[] bad = {0, -1, 61, 62, MIN, MAX};
        for (int ticks : bad) {
            due("pass(" + ticks + ")", shaft.pass(ticks), BAD_VALUE);
            due("count(0)", shaft.count(0), time);
        }
        due("no ticks of observations", shaft.count(7), 0);
    }

    // ---- 13: observe

    private static void observeRanges() {
        sentence("observe: wire: 0 to 3; UNKNOWN");
        for (int wire = 0; wire <= 3; wire++) {
            due("observe(" + wire + ", 0, 1)", withPairs(1).observe(wire, 0, 1), 0);
        }
        for (int wire : NO_WIRES) {
            due("observe(" + wire + ", 0, 1)", withPairs(1).observe(wire, 0, 1), UNKNOWN);
        }
        sentence("observe: station: a station; UNKNOWN");
        for (int many = 0; many <= 5; many++) {
            PlumbShaft shaft = withPairs(many);
            for (int station = 0; station <= 6; station++) {
                due("of " + many + ", the station " + station, shaft.observe(0, station, 1),
                        station < many ? 0 : UNKNOWN);
            }
            due("the station -1", shaft.observe(0, -1, 1), UNKNOWN);
            due("the station MIN", shaft.observe(0, MIN, 1), UNKNOWN);
            due("the station MAX", shaft.observe(0, MAX, 1), UNKNOWN);
        }
        sentence("observe: ticks: 1 to 60; BAD_VALUE");
        int[] right = {1, 2, 59, 60};
        for (int ticks : right) {
            PlumbShaft shaft = withPairs(1);
            due("ticks " + ticks, shaft.observe(0, 0, ticks), 0);
            due("time", shaft.count(0), ticks);
            due("ticks that it has", shaft.observation(0, 0, 3), ticks);
            due("ticks of observations", shaft.count(7), ticks);
        }
        int[] bad = {0, -1, 61, 62, MIN, MAX};
        for (int ticks : bad) {
            PlumbShaft shaft = withPairs(1);
            due("ticks " + ticks, shaft.observe(0, 0, ticks), BAD_VALUE);
            due("time", shaft.count(0), 0);
            due("never made", shaft.observation(0, 0, 3), NONE);
        }
    }

    private static void observeRefused() {
        sentence("observe: REFUSED for the reasons 1 and 2: the station is deeper than the wire");
        int[][] depths = {{10, 9, 0}, {10, 10, 0}, {10, 11, 2}, {10, 800, 2}, {11, 11, 0}, {400, 399, 0}, {400, 400, 0},
            {400, 401, 2}, {799, 799, 0}, {799, 800, 2}, {800, 800, 0}, {800, 1, 0}};
        for (int[] d : depths) {
            PlumbShaft shaft = new PlumbShaft();
            shaft.addStation(d[1], 0);
            due("not hung", shaft.observe(2, 0, 1), REFUSED);
            due("reason", shaft.count(8), 1);
            shaft.hang(2, 0, 0, 1, d[0]);
            due("a wire to " + d[0] + " at " + d[1], shaft.observe(2, 0, 1), d[2] == 0 ? 0 : REFUSED);
            due("reason", shaft.count(8), d[2] == 0 ? 1 : 2);
            due("observations", shaft.count(5), d[2] == 0 ? 1 : 0);
            due("time", shaft.count(0), d[2] == 0 ? 1 : 0);
            shaft.lift(2);
            due("lifted", shaft.observe(2, 0, 1), REFUSED);
            due("reason", shaft.count(8), 1);
        }
    }

    private static void observeSpread() {
        sentence("observe returns the spread");
        int[] spreads = {0, 50, 100, 100, 100, 150, 200, 200, 200};
        for (int ticks = 1; ticks <= 9; ticks++) {
            PlumbShaft shaft = new PlumbShaft();
            shaft.hang(0, 0, 0, 1, 100);
            shaft.addStation(100, 0);
            shaft.push(0, 2, 100);
            due("of " + ticks + " readings", shaft.observe(0, 0, ticks), spreads[ticks - 1]);
            due("as told", shaft.observation(0, 0, 2), spreads[ticks - 1]);
        }
        // the phases 7 and 0, on both sides of the period's end
        PlumbShaft shaft = new PlumbShaft();
        shaft.hang(0, 0, 0, 1, 100);
        shaft.addStation(100, 0);
        shaft.push(0, 2, 100);
        shaft.pass(7);
        due("-50, 0 and 47", shaft.observe(0, 0, 3), 97);
        due("mean y", shaft.observation(0, 0, 1), -1);
        due("95, 47", shaft.observe(0, 0, 2), 48);
        due("mean y", shaft.observation(0, 0, 1), 71);
    }

    // ---- 14: orient

    private static void orientStations() {
        sentence("orient: station: a station; UNKNOWN");
        for (int many = 0; many <= 5; many++) {
            PlumbShaft shaft = withPairs(many);
            for (int station = 0; station < many; station++) {
                observeAll(shaft, station);
            }
            for (int station = 0; station <= 6; station++) {
                int orientation = (8000 - 100 * station) % 8000;
                due("of " + many + ", the station " + station, shaft.orient(station),
                        station < many ? orientation : UNKNOWN);
            }
            due("the station -1", shaft.orient(-1), UNKNOWN);
            due("the station MIN", shaft.orient(MIN), UNKNOWN);
            due("the station MAX", shaft.orient(MAX), UNKNOWN);
            due("oriented", shaft.count(4), many);
        }
    }

    private static void orientNotHung() {
        sentence("orient: REFUSED for the reason 1: a wire is not hung");
        for (int wire = 0; wire < 4; wire++) {
            PlumbShaft shaft = withPairs(1);
            observeAll(shaft, 0);
            due("all hung", shaft.orient(0), 0);
            shaft.lift(wire);
            due("without " + wire, shaft.orient(0), REFUSED);
            due("reason", shaft.count(8), 1);
            due("given by its pair", shaft.given(0, wire / 2), NONE);
            due("given by the other pair", shaft.given(0, 1 - wire / 2), 0);
        }
    }

    private static void orientNotObserved() {
        sentence("orient: REFUSED for the reason 3: an observation is void or was never made");
        for (int wire = 0; wire < 4; wire++) {
            PlumbShaft shaft = withPairs(2);
            for (int other = 0; other < 4; other++) {
                if (other != wire) {
                    shaft.observe(other, 0, 1);
                }
                shaft.observe(other, 1, 1);
            }
            due("never made of " + wire, shaft.orient(0), REFUSED);
            due("reason", shaft.count(8), 3);
            due("given by its pair", shaft.given(0, wire / 2), NONE);
            due("given by the other pair", shaft.given(0, 1 - wire / 2), 0);
            due("the other station", shaft.orient(1), 7900);
            shaft.observe(wire, 0, 1);
            due("made", shaft.orient(0), 0);
            shaft.push(wire, 0, 1);
            due("void of " + wire, shaft.orient(0), REFUSED);
            due("reason", shaft.count(8), 3);
            due("given by its pair", shaft.given(0, wire / 2), NONE);
            due("given by the other pair", shaft.given(0, 1 - wire / 2), 0);
            due("the other station", shaft.orient(1), REFUSED);
        }
    }

    private static void orientAtOnePlace() {
        sentence("orient: REFUSED for the reason 4: both wires of a pair are at the same place (at the surface, or by"
                + " their observations)");
        for (int pair = 0; pair < 2; pair++) {
            // the place and the clamp of the second wire against the first one's, and the reason
            int[][] seconds = {{0, 0, 1, 0, 4}, {0, 0, 0, 1, 4}, {0, 0, 0, 0, 4}, {1, 0, -1, 0, 4}, {0, 1, 0, -1, 4},
                {1, 0, 0, 0, 0}, {0, 1, 0, 0, 0}, {-1, 0, 0, 0, 0}, {0, -1, 0, 0, 0}, {1, 1, -1, 0, 5}, {1, 1, 0, -1, 5},
                {1, 0, -2, 0, 5}};
            for (int[] s : seconds) {
                PlumbShaft shaft = withPairs(1);
                shaft.hang(2 * pair, 30, 40, 1, 100);
                shaft.hang(2 * pair + 1, 30 + s[0], 40 + s[1], 1, 100);
                shaft.setClamp(2 * pair + 1, s[2], s[3]);
                observeAll(shaft, 0);
                String call = "second wire at (" + s[0] + ", " + s[1] + "), clamp (" + s[2] + ", " + s[3] + ")";
                due(call, shaft.orient(0), s[4] == 0 ? 0 : REFUSED);
                due(call + ": reason", shaft.count(8), s[4]);
                due(call + ": given", shaft.given(0, pair) == NONE ? NONE : 0, s[4] == 4 ? NONE : 0);
                due(call + ": given by the other pair", shaft.given(0, 1 - pair), 0);
                due(call + ": surface", shaft.surface(pair) == NONE ? NONE : 0, s[0] == 0 && s[1] == 0 ? NONE : 0);
            }
        }
    }

    private static void orientDisagreeing() {
        sentence("orient returns its orientation; REFUSED for the reason 5: the pairs do not agree");
        PlumbShaft shaft = withPairs(1);
        shaft.hang(3, 50, 99, 1, 100);
        shaft.setClamp(3, 0, 1);
        observeAll(shaft, 0);
        // (100, 99) is 994 at the surface
        due("pair 0 gives", shaft.given(0, 0), 0);
        due("pair 1 gives", shaft.given(0, 1), 7994);
        due("the difference -6", shaft.orient(0), 7997);
        shaft.setTolerance(5);
        due("the tolerance 5", shaft.orient(0), REFUSED);
        due("reason", shaft.count(8), 5);
        due("the orientation stays", shaft.station(0, 2), 7997);
        shaft.setTolerance(6);
        due("the tolerance 6", shaft.orient(0), 7997);
    }

    /** Each two of the reasons 1, 3, 4 and 5 at once, one of them in each pair or both in one. */
    private static void lowestReason() {
        sentence("Of several reasons the one with the lowest number is set.");
        PlumbShaft shaft = withPairs(1);
        // the pair 0 at one place (4), the pair 1 far off (5)
        shaft.hang(1, 0, 0, 1, 100);
        shaft.hang(3, -51, 0, 1, 100);
        shaft.setClamp(3, 2, 0);
        observeAll(shaft, 0);
        dueReason("4 and 5", shaft, 4);
        shaft.push(3, 0, 1);
        dueReason("4 of the pair 0, 3 of the pair 1", shaft, 3);
        shaft.push(0, 0, 1);
        dueReason("3 of both, 4", shaft, 3);
        shaft.observe(3, 0, 1);
        dueReason("3 and 4 of the pair 0", shaft, 3);
        shaft.lift(3);
        dueReason("3 and 4 of the pair 0, 1 of the pair 1", shaft, 1);
        shaft.hang(3, -50, 0, 1, 100);
        shaft.observe(3, 0, 1);
        shaft.observe(0, 0, 1);
        dueReason("4 of both", shaft, 4);
        shaft.lift(1);
        dueReason("1 of the pair 0, 4 of the pair 1", shaft, 1);
        shaft.hang(1, 9, 0, 1, 100);
        dueReason("3 of the pair 0, 4 of the pair 1", shaft, 3);
        shaft.observe(1, 0, 1);
        dueReason("4 of the pair 1", shaft, 4);
        shaft.hang(3, -51, 0, 1, 100);
        shaft.setClamp(3, 2, 0);
        dueReason("3 of the pair 1", shaft, 3);
        shaft.observe(3, 0, 1);
        dueReason("5", shaft, 5);
        shaft.lift(0);
        dueReason("1 of the pair 0", shaft, 1);
        sentence("Of several reasons the one with the lowest number is set: observe");
        shaft.addStation(101, 0);
        due("not hung", shaft.observe(0, 1, 1), REFUSED);
        due("reason", shaft.count(8), 1);
        due("too deep", shaft.observe(1, 1, 1), REFUSED);
        due("reason", shaft.count(8), 2);
    }

    private static void dueReason(String when, PlumbShaft shaft, int reason) {
        due(when + ": orient(0)", shaft.orient(0), REFUSED);
        due(when + ": reason", shaft.count(8), reason);
    }

    // ---- 25: station

    private static void tellStations() {
        sentence("station: a station; UNKNOWN");
        for (int many = 0; many <= 5; many++) {
            PlumbShaft shaft = withStations(many);
            for (int station = 0; station <= 6; station++) {
                due("of " + many + ", the station " + station, shaft.station(station, 0),
                        station < many ? 10 + station : UNKNOWN);
                due("with a bad what", shaft.station(station, 4), station < many ? BAD_VALUE : UNKNOWN);
            }
            due("the station -1", shaft.station(-1, 0), UNKNOWN);
            due("the station MIN", shaft.station(MIN, 0), UNKNOWN);
            due("the station MAX", shaft.station(MAX, 0), UNKNOWN);
        }
        sentence("station: what: 0 for its depth, 1 for its frame, 2 for its orientation (NONE if it has none), 3 for"
                + " the number of its observations that are not void; BAD_VALUE");
        PlumbShaft shaft = withPairs(2);
        due("depth", shaft.station(1, 0), 11);
        due("frame", shaft.station(1, 1), 100);
        for (int wire = 0; wire < 4; wire++) {
            due("orientation", shaft.station(1, 2), NONE);
            due("observations", shaft.station(1, 3), wire);
            shaft.observe(wire, 1, 1);
            due("observations", shaft.station(1, 3), wire + 1);
            due("the other one's", shaft.station(0, 3), 0);
        }
        shaft.orient(1);
        due("orientation", shaft.station(1, 2), 7900);
        due("the other one's", shaft.station(0, 2), NONE);
        int[] bad = {-1, -2, 4, 5, MIN, MAX};
        for (int what : bad) {
            due("station(1, " + what + ")", shaft.station(1, what), BAD_VALUE);
        }
        shaft.addStation(12, 0);
        observeAll(shaft, 0);
        due("the orientation 0", shaft.orient(0), 0);
        due("is one", shaft.station(0, 2), 0);
        due("oriented", shaft.count(4), 2);
    }

    // ---- 26: observation

    private static void tellObservations() {
        sentence("observation: station: a station, wire: 0 to 3; UNKNOWN; NONE if it is void or was never made.");
        for (int many = 0; many <= 5; many++) {
            PlumbShaft shaft = withPairs(many);
            for (int station = 0; station <= 6; station++) {
                due("of " + many + ", the station " + station, shaft.observation(station, 0, 0),
                        station < many ? NONE : UNKNOWN);
            }
            due("the station -1", shaft.observation(-1, 0, 0), UNKNOWN);
            due("the station MIN", shaft.observation(MIN, 0, 0), UNKNOWN);
            due("the station MAX", shaft.observation(MAX, 0, 0), UNKNOWN);
        }
        PlumbShaft shaft = withPairs(5);
        for (int wire : NO_WIRES) {
            due("observation(0, " + wire + ", 0)", shaft.observation(0, wire, 0), UNKNOWN);
        }
        shaft.observe(3, 4, 1);
        due("made", shaft.observation(4, 3, 3), 1);
        due("of the wire 2", shaft.observation(4, 2, 3), NONE);
        due("at the station 3", shaft.observation(3, 3, 3), NONE);
        shaft.push(3, 0, 1);
        due("void", shaft.observation(4, 3, 3), NONE);
        sentence("observation: what: 0 for the mean in x, 1 for that in y, 2 for the spread, 3 for the ticks of the"
                + " observation, 4 for the time at which it ended; BAD_VALUE");
        shaft = new PlumbShaft();
        shaft.hang(1, 11, 22, 1, 10);
        shaft.addStation(10, 0);
        shaft.push(1, 0, 33);
        shaft.pass(5);
        due("31, 0", shaft.observe(1, 0, 2), 31);
        shaft.pass(1);
        int[] told = {26, 22, 31, 2, 7};
        for (int what = 0; what < 5; what++) {
            due("observation(0, 1, " + what + ")", shaft.observation(0, 1, what), told[what]);
            due("never made", shaft.observation(0, 0, what), NONE);
        }
        int[] bad = {-1, -2, 5, 6, MIN, MAX};
        for (int what : bad) {
            due("observation(0, 1, " + what + ")", shaft.observation(0, 1, what), BAD_VALUE);
            due("never made", shaft.observation(0, 0, what), BAD_VALUE);
        }
    }

    // ---- 27: bearing

    private static void bearing() {
        sentence("bearing: dx: -20000 to 20000, dy: -20000 to 20000; BAD_VALUE, also if both are 0.");
        PlumbShaft shaft = new PlumbShaft();
        int[][] right = {{20000, 0, 0}, {19999, 0, 0}, {0, 20000, 2000}, {0, 19999, 2000}, {-20000, 0, 4000},
            {-19999, 0, 4000}, {0, -20000, 6000}, {0, -19999, 6000}, {20000, 20000, 1000}, {-20000, 20000, 3000},
            {-20000, -20000, 5000}, {20000, -20000, 7000}, {1, 0, 0}, {0, 1, 2000}, {-1, 0, 4000}, {0, -1, 6000}};
        for (int[] r : right) {
            due("bearing(" + r[0] + ", " + r[1] + ")", shaft.bearing(r[0], r[1]), r[2]);
        }
        int[] bad = {-20001, -20002, 20001, 20002, MIN, MAX};
        for (int side : bad) {
            due("bearing(" + side + ", 0)", shaft.bearing(side, 0), BAD_VALUE);
            due("bearing(0, " + side + ")", shaft.bearing(0, side), BAD_VALUE);
            due("bearing(" + side + ", 1)", shaft.bearing(side, 1), BAD_VALUE);
            due("bearing(" + side + ", itself)", shaft.bearing(side, side), BAD_VALUE);
        }
        due("bearing(0, 0)", shaft.bearing(0, 0), BAD_VALUE);
    }

    // ---- 28: surface

    private static void surface() {
        sentence("surface: pair: 0 or 1; UNKNOWN");
        PlumbShaft shaft = withPairs(0);
        due("surface(0)", shaft.surface(0), 1000);
        due("surface(1)", shaft.surface(1), 1000);
        for (int pair : NO_PAIRS) {
            due("surface(" + pair + ")", shaft.surface(pair), UNKNOWN);
            due("none hung", new PlumbShaft().surface(pair), UNKNOWN);
        }
        sentence("surface: NONE if one of its wires is not hung, or both are at the same place.");
        for (int wire = 0; wire < 4; wire++) {
            shaft = withPairs(0);
            shaft.lift(wire);
            due("without " + wire, shaft.surface(wire / 2), NONE);
            due("the other pair", shaft.surface(1 - wire / 2), 1000);
            shaft = withPairs(0);
            int other = wire ^ 1;
            shaft.hang(wire, shaft.wire(other, 0), shaft.wire(other, 1), 200, 10);
            due("both at the same place", shaft.surface(wire / 2), NONE);
            shaft.setClamp(wire, 20, 20);
            due("also with a clamp error", shaft.surface(wire / 2), NONE);
            due("the other pair", shaft.surface(1 - wire / 2), 1000);
            shaft.hang(wire, shaft.wire(other, 0), shaft.wire(other, 1) + 1, 200, 10);
            due("beside it in y", shaft.surface(wire / 2), wire % 2 == 0 ? 6000 : 2000);
            shaft.hang(wire, shaft.wire(other, 0) + 1, shaft.wire(other, 1), 200, 10);
            due("beside it in x", shaft.surface(wire / 2), wire % 2 == 0 ? 4000 : 0);
        }
        sentence("surface returns its bearing at the surface");
        shaft.hang(0, 5000, 5000, 1, 10);
        shaft.hang(1, -5000, -5000, 1, 10);
        due("from corner to corner", shaft.surface(0), 5000);
        shaft.hang(2, -5000, 5000, 1, 10);
        shaft.hang(3, 5000, -5000, 1, 10);
        due("from corner to corner", shaft.surface(1), 7000);
    }

    // ---- 29: given

    private static void given() {
        sentence("given: station: a station, pair: 0 or 1; UNKNOWN");
        for (int many = 0; many <= 5; many++) {
            PlumbShaft shaft = withPairs(many);
            for (int station = 0; station <= 6; station++) {
                due("of " + many + ", the station " + station, shaft.given(station, 0), station < many ? NONE : UNKNOWN);
            }
            due("the station -1", shaft.given(-1, 0), UNKNOWN);
            due("the station MIN", shaft.given(MIN, 0), UNKNOWN);
            due("the station MAX", shaft.given(MAX, 0), UNKNOWN);
        }
        PlumbShaft shaft = withPairs(5);
        observeAll(shaft, 4);
        due("given(4, 0)", shaft.given(4, 0), 7600);
        due("given(4, 1)", shaft.given(4, 1), 7600);
        for (int pair : NO_PAIRS) {
            due("given(4, " + pair + ")", shaft.given(4, pair), UNKNOWN);
            due("given(3, " + pair + ")", shaft.given(3, pair), UNKNOWN);
        }
        sentence("given: NONE if orient() would be refused for the reason 1, 3 or 4 as far as this pair is concerned");
        shaft.setTolerance(0);
        shaft.setClamp(1, 20, 0);
        shaft.observe(1, 4, 1);
        // (120, 100) is 909
        due("not for the reason 5", shaft.given(4, 0), 1000 - 1309 + 8000);
        due("orient", shaft.orient(4), REFUSED);
        due("reason", shaft.count(8), 5);
        due("given(4, 1)", shaft.given(4, 1), 7600);
        due("not oriented by this", shaft.station(4, 2), NONE);
    }

    public static void main(String[] args) {
        addStationRanges();
        addStationFull();
        addStationAfterUndo();
        setTolerance();
        pass();
        observeRanges();
        observeRefused();
        observeSpread();
        orientStations();
        orientNotHung();
        orientNotObserved();
        orientAtOnePlace();
        orientDisagreeing();
        lowestReason();
        tellStations();
        tellObservations();
        bearing();
        surface();
        given();
        System.out.println(wrong == 0 ? "edges of the stations: all as due"
                : "edges of the stations: " + wrong + " answers are not as due");
        if (wrong != 0) {
            System.exit(1);
        }
    }
}

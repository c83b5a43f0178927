/** Promises 1 to 7 and 21: a new object, wires that are hung, lifted, set, pushed and swapped, and told. */
public final class WiresTest {
    private static final int UNKNOWN = -100001;
    private static final int BAD_VALUE = -100002;
    private static final int REFUSED = -100003;
    private static final int NONE = -100005;
    private static final int MIN = Integer.MIN_VALUE;
    private static final int MAX = Integer.MAX_VALUE;

    private static int wrong = 0;

    private static void due(String call, int got, int want) {
        if (got != want) {
            wrong++;
            System.out.println(call + " answered " + got + ", due is " + want);
        }
    }

    /** The properties 0 to 10 of a wire, in their order. */
    private static void dueWire(String when, PlumbShaft shaft, int wire, int... properties) {
        for (int what = 0; what < properties.length; what++) {
            due(when + ": wire(" + wire + ", " + what + ")", shaft.wire(wire, what), properties[what]);
        }
    }

    private static void newObject() {
        PlumbShaft shaft = new PlumbShaft();
        for (int what = 0; what <= 10; what++) {
            due("new: count(" + what + ")", shaft.count(what), what == 6 ? 10 : 0);
        }
        for (int wire = 0; wire < 4; wire++) {
            due("new: wire", shaft.wire(wire, 0), NONE);
        }
        for (int station = 0; station < 5; station++) {
            due("new: station", shaft.station(station, 0), UNKNOWN);
        }
        due("new: undo", shaft.undo(), NONE);
        due("new: restore(0)", shaft.restore(0), NONE);
        due("new: restore(1)", shaft.restore(1), NONE);
        due("new: clearCurrents", shaft.clearCurrents(), NONE);
        due("new: clearText", shaft.clearText(), 0);
    }

    private static void hang() {
        PlumbShaft shaft = new PlumbShaft();
        due("hang 2", shaft.hang(2, -5000, 5000, 200, 800), 1);
        dueWire("hung", shaft, 2, -5000, 5000, 200, 800, 0, 0, 0, 0, 0, 0, 36);
        due("hang 0", shaft.hang(0, 5000, -5000, 1, 10), 2);
        dueWire("hung", shaft, 0, 5000, -5000, 1, 10, 0, 0, 0, 0, 0, 0, 4);
        due("hang 3", shaft.hang(3, 1, 2, 3, 99), 3);
        due("period at 99", shaft.wire(3, 10), 4);
        due("hang 3 anew", shaft.hang(3, 1, 2, 3, 100), 3);
        due("period at 100", shaft.wire(3, 10), 8);
        due("hang 1", shaft.hang(1, 1, 2, 3, 799), 4);
        due("period at 799", shaft.wire(1, 10), 32);
        due("count(1)", shaft.count(1), 4);
        due("states", shaft.count(9), 5);
    }

    private static void hangAnew() {
        PlumbShaft shaft = new PlumbShaft();
        shaft.hang(0, 10, 20, 30, 400);
        shaft.setClamp(0, 4, -5);
        shaft.setBucket(0, 2);
        shaft.push(0, 3, 100);
        shaft.pass(7);
        dueWire("before", shaft, 0, 10, 20, 30, 400, 4, -5, 2, 3, 100, 7, 20);
        shaft.addStation(10, 0);
        shaft.observe(0, 0, 1);
        due("observation", shaft.observation(0, 0, 3), 1);
        due("hang anew", shaft.hang(0, 11, 21, 31, 401), 1);
        dueWire("anew", shaft, 0, 11, 21, 31, 401, 0, 0, 0, 0, 0, 0, 20);
        due("observation, void", shaft.observation(0, 0, 3), NONE);
        due("hang the same", shaft.hang(0, 11, 21, 31, 401), 1);
        shaft.observe(0, 0, 1);
        due("hang the same", shaft.hang(0, 11, 21, 31, 401), 1);
        due("observation, void", shaft.observation(0, 0, 3), NONE);
    }

    private static void hangWrongly() {
        PlumbShaft shaft = new PlumbShaft();
        int[][] unknown = {{-1}, {4}, {MIN}, {MAX}};
        for (int[] wire : unknown) {
            due("hang(" + wire[0] + ")", shaft.hang(wire[0], 0, 0, 1, 10), UNKNOWN);
            due("hang(" + wire[0] + ") badly", shaft.hang(wire[0], 5001, 0, 0, 9), UNKNOWN);
        }
        int[][] bad = {{-5001, 0, 1, 10}, {5001, 0, 1, 10}, {MIN, 0, 1, 10}, {0, -5001, 1, 10}, {0, 5001, 1, 10},
            {0, MAX, 1, 10}, {0, 0, 0, 10}, {0, 0, -1, 10}, {0, 0, 201, 10}, {0, 0, 1, 9}, {0, 0, 1, 801},
            {0, 0, 1, MIN}, {0, 0, MAX, 10}};
        for (int[] b : bad) {
            due("hang badly", shaft.hang(0, b[0], b[1], b[2], b[3]), BAD_VALUE);
        }
        due("hung", shaft.count(1), 0);
        due("states", shaft.count(9), 0);
    }

    private static void lift() {
        PlumbShaft shaft = new PlumbShaft();
        due("lift(-1)", shaft.lift(-1), UNKNOWN);
        due("lift(4)", shaft.lift(4), UNKNOWN);
        due("reason", shaft.count(8), 0);
        due("lift(0), not hung", shaft.lift(0), REFUSED);
        due("reason", shaft.count(8), 1);
        due("states", shaft.count(9), 0);
        shaft.hang(0, 0, 0, 1, 10);
        shaft.hang(3, 0, 0, 1, 10);
        shaft.addStation(10, 0);
        shaft.observe(3, 0, 1);
        shaft.observe(0, 0, 1);
        due("lift(3)", shaft.lift(3), 1);
        due("wire(3)", shaft.wire(3, 0), NONE);
        due("observations", shaft.count(5), 1);
        due("observation of 3", shaft.observation(0, 3, 0), NONE);
        due("lift(3) again", shaft.lift(3), REFUSED);
        due("lift(0)", shaft.lift(0), 0);
        due("observations", shaft.count(5), 0);
        shaft.hang(3, 0, 0, 1, 10);
        due("observation of 3, hung again", shaft.observation(0, 3, 0), NONE);
    }

    private static void setClamp() {
        PlumbShaft shaft = new PlumbShaft();
        due("not hung", shaft.setClamp(1, 0, 0), REFUSED);
        due("reason", shaft.count(8), 1);
        due("unknown", shaft.setClamp(4, 21, 0), UNKNOWN);
        due("unknown", shaft.setClamp(-1, 0, 0), UNKNOWN);
        int[][] bad = {{-21, 0}, {21, 0}, {0, -21}, {0, 21}, {MIN, 0}, {0, MIN}, {MAX, 0}};
        for (int[] b : bad) {
            due("bad, not hung", shaft.setClamp(1, b[0], b[1]), BAD_VALUE);
        }
        shaft.hang(1, 100, 200, 1, 10);
        shaft.addStation(5, 0);
        shaft.observe(1, 0, 1);
        due("the same clamp", shaft.setClamp(1, 0, 0), 0);
        due("kept", shaft.count(5), 1);
        due("states: also the same is an act", shaft.count(9), 4);
        due("20, -20", shaft.setClamp(1, 20, -20), 40);
        due("void", shaft.count(5), 0);
        due("ex", shaft.wire(1, 4), 20);
        due("ey", shaft.wire(1, 5), -20);
        due("rest x", shaft.rest(1, 5, 0), 120);
        due("rest y", shaft.rest(1, 5, 1), 180);
        shaft.observe(1, 0, 1);
        due("other ex", shaft.setClamp(1, -3, -20), 23);
        due("void", shaft.count(5), 0);
        shaft.observe(1, 0, 1);
        due("other ey", shaft.setClamp(1, -3, 7), 10);
        due("void", shaft.count(5), 0);
        due("x stays", shaft.wire(1, 0), 100);
    }

    private static void setBucket() {
        PlumbShaft shaft = new PlumbShaft();
        due("not hung", shaft.setBucket(2, 1), REFUSED);
        due("reason", shaft.count(8), 1);
        due("unknown", shaft.setBucket(-1, 3), UNKNOWN);
        due("unknown", shaft.setBucket(4, 0), UNKNOWN);
        due("bad, not hung", shaft.setBucket(2, 3), BAD_VALUE);
        due("bad", shaft.setBucket(2, -1), BAD_VALUE);
        shaft.hang(2, 0, 0, 1, 10);
        shaft.addStation(5, 0);
        shaft.push(2, 6, 300);
        shaft.pass(3);
        shaft.observe(2, 0, 3);
        due("the same bucket", shaft.setBucket(2, 0), 0);
        due("kept", shaft.count(5), 1);
        due("water", shaft.setBucket(2, 1), 0);
        due("void", shaft.count(5), 0);
        due("bucket", shaft.wire(2, 6), 1);
        due("the sway goes on", shaft.wire(2, 9), 2);
        due("the sway goes on", shaft.wire(2, 8), 285);
        shaft.observe(2, 0, 1);
        due("water again", shaft.setBucket(2, 1), 1);
        due("kept", shaft.count(5), 1);
        due("oil", shaft.setBucket(2, 2), 1);
        due("none", shaft.setBucket(2, 0), 2);
    }

    private static void push() {
        PlumbShaft shaft = new PlumbShaft();
        due("not hung", shaft.push(0, 0, 1), REFUSED);
        due("reason", shaft.count(8), 1);
        due("unknown", shaft.push(4, 8, 0), UNKNOWN);
        due("unknown", shaft.push(-1, 0, 1), UNKNOWN);
        int[][] bad = {{-1, 1}, {8, 1}, {MAX, 1}, {0, 0}, {0, -1}, {0, 501}, {MIN, MIN}};
        for (int[] b : bad) {
            due("bad, not hung", shaft.push(0, b[0], b[1]), BAD_VALUE);
        }
        shaft.hang(0, 0, 0, 1, 250);
        shaft.hang(1, 9, 0, 1, 250);
        shaft.addStation(5, 0);
        due("push", shaft.push(0, 7, 500), 12);
        dueWire("pushed", shaft, 0, 0, 0, 1, 250, 0, 0, 0, 7, 500, 0, 12);
        shaft.pass(5);
        due("phase", shaft.wire(0, 9), 5);
        shaft.observe(0, 0, 1);
        shaft.observe(1, 0, 1);
        due("push the same", shaft.push(0, 7, 500), 12);
        due("phase", shaft.wire(0, 9), 0);
        due("void", shaft.observation(0, 0, 0), NONE);
        due("the other one's is kept", shaft.observation(0, 1, 0), 9);
        due("push 0 1", shaft.push(0, 0, 1), 12);
        due("direction", shaft.wire(0, 7), 0);
        due("amplitude", shaft.wire(0, 8), 1);
    }

    private static void swap() {
        PlumbShaft shaft = new PlumbShaft();
        shaft.hang(0, 1, 2, 10, 100);
        due("other not hung", shaft.swap(0, 3), REFUSED);
        due("reason", shaft.count(8), 1);
        due("one not hung", shaft.swap(3, 0), REFUSED);
        due("both the same, not hung", shaft.swap(3, 3), BAD_VALUE);
        due("both the same", shaft.swap(0, 0), BAD_VALUE);
        due("unknown", shaft.swap(4, 4), UNKNOWN);
        due("unknown", shaft.swap(-1, 0), UNKNOWN);
        due("unknown", shaft.swap(0, 4), UNKNOWN);
        due("unknown", shaft.swap(0, -1), UNKNOWN);
        shaft.hang(3, -7, -8, 20, 300);
        shaft.hang(1, 50, 60, 20, 300);
        shaft.setClamp(0, 3, 4);
        shaft.setBucket(3, 2);
        shaft.push(0, 5, 50);
        shaft.push(3, 6, 60);
        shaft.addStation(20, 0);
        shaft.addStation(100, 0);
        shaft.observe(0, 0, 1);
        shaft.observe(0, 1, 1);
        shaft.observe(3, 1, 1);
        shaft.observe(1, 1, 1);
        due("swap", shaft.swap(3, 0), 3);
        dueWire("swapped", shaft, 0, -7, -8, 10, 100, 3, 4, 0, 5, 0, 0, 8);
        dueWire("swapped", shaft, 3, 1, 2, 20, 300, 0, 0, 2, 6, 0, 0, 16);
        dueWire("not swapped", shaft, 1, 50, 60, 20, 300, 0, 0, 0, 0, 0, 4, 16);
        due("observations", shaft.count(5), 1);
        due("the third one's is kept", shaft.observation(1, 1, 0), 50);
        due("swap again", shaft.swap(0, 1), 1);
        due("swap again", shaft.swap(0, 1), 0);
    }

    private static void tellWires() {
        PlumbShaft shaft = new PlumbShaft();
        due("not hung", shaft.wire(1, 0), NONE);
        due("not hung", shaft.wire(1, 10), NONE);
        due("bad, not hung", shaft.wire(1, 11), BAD_VALUE);
        due("unknown and bad", shaft.wire(4, 11), UNKNOWN);
        due("unknown", shaft.wire(-1, 0), UNKNOWN);
        shaft.hang(1, 1, 2, 3, 10);
        due("bad", shaft.wire(1, -1), BAD_VALUE);
        due("bad", shaft.wire(1, 11), BAD_VALUE);
        due("bad", shaft.wire(1, MAX), BAD_VALUE);
        due("unknown", shaft.wire(MIN, 0), UNKNOWN);
        due("no reason", shaft.count(8), 0);
    }

    public static void main(String[] args) {
        newObject();
        hang();
        hangAnew();
        hangWrongly();
        lift();
        setClamp();
        setBucket();
        push();
        swap();
        tellWires();
        System.out.println(wrong == 0 ? "wires: all as due" : "wires: " + wrong + " answers are not as due");
        if (wrong != 0) {
            System.exit(1);
        }
    }
}

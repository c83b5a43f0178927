/** Promises 18 to 20 and 30: undo, snapshots, what a state holds, and what is counted. */
public final class HistoryTest {
    private static final int UNKNOWN = -100001;
    private static final int BAD_VALUE = -100002;
    private static final int REFUSED = -100003;
    private static final int NONE = -100005;

    private static int wrong = 0;

    private static void due(String call, int got, int want) {
        if (got != want) {
            wrong++;
            System.out.println(call + " answered " + got + ", due is " + want);
        }
    }

    private static void undo() {
        PlumbShaft shaft = new PlumbShaft();
        due("empty", shaft.undo(), NONE);
        for (int i = 1; i <= 7; i++) {
            shaft.pass(i);
            due("states", shaft.count(9), Math.min(i, 5));
        }
        int[] times = {21, 15, 10, 6, 3};
        for (int i = 0; i < 5; i++) {
            due("undo", shaft.undo(), 4 - i);
            due("time", shaft.count(0), times[i]);
            due("states", shaft.count(9), 4 - i);
        }
        due("empty", shaft.undo(), NONE);
        due("the older ones are dropped", shaft.count(0), 3);
        due("pass", shaft.pass(60), 63);
        due("undo", shaft.undo(), 0);
        due("time", shaft.count(0), 3);
    }

    private static void undoBetweenActs() {
        PlumbShaft shaft = new PlumbShaft();
        for (int i = 0; i < 9; i++) {
            shaft.pass(10);
        }
        due("undo", shaft.undo(), 4);
        due("undo", shaft.undo(), 3);
        shaft.pass(1);
        due("states", shaft.count(9), 4);
        due("undo", shaft.undo(), 3);
        due("time", shaft.count(0), 70);
        due("undo", shaft.undo(), 2);
        due("time", shaft.count(0), 60);
    }

    /** Every kind of act is undone by one undo(). */
    private static void everyAct() {
        PlumbShaft shaft = new PlumbShaft();
        shaft.hang(0, 1, 2, 3, 40);
        shaft.undo();
        due("hang undone", shaft.wire(0, 0), NONE);
        shaft.hang(0, 1, 2, 3, 40);
        shaft.hang(1, 5, 6, 7, 80);
        shaft.addStation(40, 9);
        shaft.undo();
        due("addStation undone", shaft.station(0, 0), UNKNOWN);
        shaft.addStation(40, 9);
        shaft.observe(0, 0, 3);
        shaft.undo();
        due("observe undone", shaft.count(5), 0);
        due("observe undone", shaft.count(7), 0);
        due("observe undone", shaft.count(0), 0);
        shaft.observe(0, 0, 3);
        shaft.lift(0);
        shaft.undo();
        due("lift undone", shaft.wire(0, 1), 2);
        due("lift undone", shaft.observation(0, 0, 3), 3);
        shaft.setClamp(0, 4, 5);
        due("void", shaft.count(5), 0);
        shaft.undo();
        due("setClamp undone", shaft.wire(0, 4), 0);
        due("setClamp undone", shaft.count(5), 1);
        shaft.setBucket(0, 2);
        shaft.undo();
        due("setBucket undone", shaft.wire(0, 6), 0);
        due("setBucket undone", shaft.observation(0, 0, 4), 3);
        shaft.push(0, 4, 50);
        shaft.undo();
        due("push undone", shaft.wire(0, 8), 0);
        due("push undone", shaft.wire(0, 7), 0);
        due("push undone", shaft.wire(0, 9), 3);
        shaft.swap(0, 1);
        shaft.undo();
        due("swap undone", shaft.wire(0, 0), 1);
        due("swap undone", shaft.wire(1, 1), 6);
        shaft.addCurrent(0, 10, 50, 50);
        shaft.undo();
        due("addCurrent undone", shaft.count(2), 0);
        due("addCurrent undone", shaft.rest(0, 40, 0), 1);
        shaft.addCurrent(0, 10, 30, 0);
        int bent = shaft.rest(0, 40, 0);
        shaft.clearCurrents();
        shaft.addCurrent(5, 6, 1, 1);
        shaft.undo();
        shaft.undo();
        due("clearCurrents undone", shaft.count(2), 1);
        due("clearCurrents undone", shaft.rest(0, 40, 0), bent);
        shaft.setTolerance(99);
        shaft.undo();
        due("setTolerance undone", shaft.count(6), 10);
        shaft.pass(9);
        shaft.undo();
        due("pass undone", shaft.count(0), 3);
        due("pass undone", shaft.wire(0, 9), 3);
    }

    private static void orientUndone() {
        PlumbShaft shaft = new PlumbShaft();
        for (int wire = 0; wire < 4; wire++) {
            shaft.hang(wire, wire, 0, 1, 10);
        }
        shaft.addStation(10, 0);
        for (int wire = 0; wire < 4; wire++) {
            shaft.observe(wire, 0, 1);
        }
        due("orient", shaft.orient(0), 0);
        due("oriented", shaft.count(4), 1);
        shaft.undo();
        due("orient undone", shaft.station(0, 2), NONE);
        due("orient undone", shaft.count(4), 0);
        due("the observations are kept", shaft.count(5), 4);
    }

    /** Errors, refusals, NONE, and what only tells record nothing. */
    private static void noActs() {
        PlumbShaft shaft = new PlumbShaft();
        shaft.hang(0, 0, 0, 1, 10);
        due("refused", shaft.lift(1), REFUSED);
        due("refused", shaft.setClamp(1, 0, 0), REFUSED);
        due("refused", shaft.setBucket(1, 0), REFUSED);
        due("refused", shaft.push(1, 0, 1), REFUSED);
        due("refused", shaft.swap(0, 1), REFUSED);
        due("none", shaft.clearCurrents(), NONE);
        due("none", shaft.restore(1), NONE);
        due("unknown", shaft.restore(2), UNKNOWN);
        due("unknown", shaft.keep(2), UNKNOWN);
        due("bad", shaft.pass(0), BAD_VALUE);
        due("bad", shaft.setTolerance(-1), BAD_VALUE);
        due("keep", shaft.keep(0), 0);
        shaft.type('a');
        shaft.clearText();
        due("states", shaft.count(9), 1);
        shaft.setBucket(0, 0);
        due("what changes nothing is an act all the same", shaft.count(9), 2);
    }

    private static void slots() {
        PlumbShaft shaft = new PlumbShaft();
        int[] unknown = {-1, 2, Integer.MIN_VALUE, Integer.MAX_VALUE};
        for (int slot : unknown) {
            due("keep(" + slot + ")", shaft.keep(slot), UNKNOWN);
            due("restore(" + slot + ")", shaft.restore(slot), UNKNOWN);
        }
        shaft.pass(5);
        due("keep(1)", shaft.keep(1), 5);
        due("restore(0), empty", shaft.restore(0), NONE);
        shaft.pass(5);
        due("keep(0)", shaft.keep(0), 10);
        shaft.pass(5);
        due("states", shaft.count(9), 3);
        due("restore(1)", shaft.restore(1), 5);
        due("time", shaft.count(0), 5);
        due("an act", shaft.count(9), 4);
        due("undo", shaft.undo(), 3);
        due("time", shaft.count(0), 15);
        due("restore(0)", shaft.restore(0), 10);
        due("pass", shaft.pass(1), 11);
        due("it stays", shaft.restore(0), 10);
        due("keep in place of what is there", shaft.keep(1), 10);
        due("restore(1)", shaft.restore(1), 10);
    }

    private static void slotsAndHistory() {
        PlumbShaft shaft = new PlumbShaft();
        shaft.pass(7);
        shaft.keep(0);
        shaft.undo();
        due("undo leaves the slots", shaft.restore(0), 7);
        due("restore leaves the history", shaft.count(9), 1);
        for (int i = 0; i < 6; i++) {
            shaft.pass(1);
            shaft.restore(0);
        }
        due("states", shaft.count(9), 5);
        due("undo", shaft.undo(), 4);
        due("time", shaft.count(0), 8);
        due("undo", shaft.undo(), 3);
        due("time", shaft.count(0), 7);
    }

    /** A snapshot holds every part of the state, and changes neither with the state nor the other way round. */
    private static void wholeState() {
        PlumbShaft shaft = new PlumbShaft();
        shaft.hang(1, 10, 20, 30, 400);
        shaft.setClamp(1, 4, -5);
        shaft.setBucket(1, 2);
        shaft.push(1, 3, 100);
        shaft.addCurrent(10, 200, 30, -40);
        shaft.addStation(300, 77);
        shaft.setTolerance(123);
        shaft.pass(2);
        shaft.observe(1, 0, 4);
        int[] wire = readAll(shaft);
        shaft.keep(0);
        change(shaft);
        shaft.keep(1);
        int[] changed = readAll(shaft);
        shaft.restore(0);
        dueAll("first snapshot", readAll(shaft), wire);
        change(shaft);
        shaft.restore(0);
        dueAll("first snapshot again", readAll(shaft), wire);
        shaft.restore(1);
        dueAll("second snapshot", readAll(shaft), changed);
    }

    private static void change(PlumbShaft shaft) {
        shaft.hang(1, -1, -2, 3, 350);
        shaft.setClamp(1, 1, 1);
        shaft.setBucket(1, 1);
        shaft.push(1, 4, 200);
        shaft.clearCurrents();
        shaft.addCurrent(0, 20, 3, 4);
        shaft.addStation(20, 30);
        shaft.setTolerance(321);
        shaft.observe(1, 0, 3);
        shaft.pass(60);
    }

    private static int[] readAll(PlumbShaft shaft) {
        int[] read = new int[11 + 7 + 4 + 5 + 2];
        int n = 0;
        for (int what = 0; what <= 10; what++) {
            read[n++] = shaft.wire(1, what);
        }
        for (int what = 0; what <= 6; what++) {
            read[n++] = shaft.count(what);
        }
        for (int what = 0; what <= 3; what++) {
            read[n++] = shaft.station(0, what);
        }
        for (int what = 0; what <= 4; what++) {
            read[n++] = shaft.observation(0, 1, what);
        }
        read[n++] = shaft.rest(1, 350, 0);
        read[n++] = shaft.count(7);
        return read;
    }

    private static void dueAll(String when, int[] got, int[] want) {
        for (int i = 0; i < want.length; i++) {
            due(when + ", part " + i, got[i], want[i]);
        }
    }

    private static void textAndReasonAreNoState() {
        PlumbShaft shaft = new PlumbShaft();
        shaft.pass(1);
        shaft.keep(0);
        shaft.type('a');
        shaft.type('b');
        shaft.lift(0);
        due("restore", shaft.restore(0), 1);
        due("text", shaft.count(10), 2);
        due("reason", shaft.count(8), 1);
        due("undo", shaft.undo(), 1);
        due("undo", shaft.undo(), 0);
        due("text", shaft.count(10), 2);
        due("reason", shaft.count(8), 1);
    }

    private static void count() {
        PlumbShaft shaft = new PlumbShaft();
        int[] bad = {-1, 11, Integer.MIN_VALUE, Integer.MAX_VALUE};
        for (int what : bad) {
            due("count(" + what + ")", shaft.count(what), BAD_VALUE);
        }
        for (int wire = 0; wire < 4; wire++) {
            shaft.hang(wire, wire, 0, 1, 10);
        }
        shaft.addCurrent(700, 800, 1, 1);
        shaft.addCurrent(700, 800, 1, 1);
        shaft.addStation(10, 0);
        shaft.addStation(10, 1);
        shaft.addStation(10, 2);
        for (int wire = 0; wire < 4; wire++) {
            shaft.observe(wire, 2, 6);
        }
        shaft.observe(0, 1, 7);
        shaft.orient(2);
        shaft.setTolerance(44);
        shaft.observe(0, 0, 8);
        shaft.lift(1);
        shaft.orient(1);
        shaft.type('x');
        shaft.undo();
        int[] due = {39, 4, 2, 3, 1, 6, 44, 39, 1, 4, 1};
        for (int what = 0; what <= 10; what++) {
            due("count(" + what + ")", shaft.count(what), due[what]);
        }
        shaft.pass(9);
        due("time", shaft.count(0), 48);
        due("ticks of observations", shaft.count(7), 39);
    }

    public static void main(String[] args) {
        undo();
        undoBetweenActs();
        everyAct();
        orientUndone();
        noActs();
        slots();
        slotsAndHistory();
        wholeState();
        textAndReasonAreNoState();
        count();
        System.out.println(wrong == 0 ? "history: all as due" : "history: " + wrong + " answers are not as due");
        if (wrong != 0) {
            System.exit(1);
        }
    }
}

/**
 * Promises 18 to 20 and 30, and what the terms say of refusals, the history and the slots, each sentence just at
 * its boundary and just beside it.
 */
public final class HistoryEdgesTest {
    private static final int UNKNOWN = -100001;
    private static final int BAD_VALUE = -100002;
    private static final int REFUSED = -100003;
    private static final int FULL = -100004;
    private static final int NONE = -100005;
    private static final int MIN = Integer.MIN_VALUE;
    private static final int MAX = Integer.MAX_VALUE;
    private static final int[] NO_SLOTS = {-1, 2, 3, MIN, MAX};

    private static int wrong = 0;
    private static String said = "";

    /** The sentence of the document that the next checks belong to. */
    private static void sentence(String quote) {
        said = quote;
    }

    private static void due(String call, int got, int want) {
        if (got != want) {
            wrong++;
            System.out.println("\"" + said + "\": " + call + " answered " + got + ", due is " + want);
        }
    }

    private static void write(PlumbShaft shaft, String text) {
        shaft.clearText();
        for (int i = 0; i < text.length(); i++) {
            shaft.type(text.charAt(i));
        }
    }

    // ---- 18: undo

    private static void undo() {
        sentence("A history of at most 5 states is kept; when one more is recorded, the oldest one is dropped; undo()"
                + " removes and restores the latest one.");
        for (int acts = 0; acts <= 12; acts++) {
            PlumbShaft shaft = new PlumbShaft();
            for (int i = 1; i <= acts; i++) {
                shaft.pass(i);
                due("after " + i + " acts, count(9)", shaft.count(9), Math.min(i, 5));
            }
            int kept = Math.min(acts, 5);
            for (int i = 1; i <= kept; i++) {
                due("after " + acts + " acts, undo", shaft.undo(), kept - i);
                due("count(9)", shaft.count(9), kept - i);
                int left = acts - i;
                due("time", shaft.count(0), left * (left + 1) / 2);
            }
            sentence("undo returns the number of states that are left; NONE if the history is empty.");
            int time = shaft.count(0);
            due("after " + acts + " acts, one undo more", shaft.undo(), NONE);
            due("again", shaft.undo(), NONE);
            due("count(9)", shaft.count(9), 0);
            due("time", shaft.count(0), time);
            due("pass", shaft.pass(1), time + 1);
            due("undo", shaft.undo(), 0);
            due("time", shaft.count(0), time);
        }
    }

    private static void undoIsNoAct() {
        sentence("undo() removes and restores the latest one.");
        PlumbShaft shaft = new PlumbShaft();
        for (int i = 0; i < 7; i++) {
            shaft.pass(1);
        }
        due("undo", shaft.undo(), 4);
        due("undo", shaft.undo(), 3);
        shaft.pass(10);
        due("count(9)", shaft.count(9), 4);
        shaft.pass(10);
        due("count(9)", shaft.count(9), 5);
        shaft.pass(10);
        due("count(9)", shaft.count(9), 5);
        int[] times = {25, 15, 5, 4, 3};
        for (int i = 0; i < 5; i++) {
            due("undo", shaft.undo(), 4 - i);
            due("time", shaft.count(0), times[i]);
        }
        due("undo", shaft.undo(), NONE);
    }

    // ---- 19, 20: keep, restore

    private static void slots() {
        sentence("keep: slot: 0 or 1; UNKNOWN");
        PlumbShaft shaft = new PlumbShaft();
        for (int slot : NO_SLOTS) {
            due("keep(" + slot + ")", shaft.keep(slot), UNKNOWN);
        }
        sentence("restore: slot: 0 or 1; UNKNOWN; NONE if the slot is empty.");
        for (int slot : NO_SLOTS) {
            due("restore(" + slot + ")", shaft.restore(slot), UNKNOWN);
        }
        for (int slot = 0; slot < 2; slot++) {
            shaft = new PlumbShaft();
            due("restore(" + slot + "), empty", shaft.restore(slot), NONE);
            shaft.pass(9);
            due("keep(" + slot + ")", shaft.keep(slot), 9);
            due("restore(" + (1 - slot) + "), empty", shaft.restore(1 - slot), NONE);
            due("restore(" + slot + ")", shaft.restore(slot), 9);
            due("count(9)", shaft.count(9), 2);
            shaft.undo();
            shaft.undo();
            due("time", shaft.count(0), 0);
            due("not emptied by undo", shaft.restore(slot), 9);
            for (int bad : NO_SLOTS) {
                due("keep(" + bad + ")", shaft.keep(bad), UNKNOWN);
                due("restore(" + bad + ")", shaft.restore(bad), UNKNOWN);
            }
            due("the other one is empty still", shaft.restore(1 - slot), NONE);
        }
    }

    private static void keepAtZero() {
        sentence("keep returns the time; restore returns the time then");
        PlumbShaft shaft = new PlumbShaft();
        due("keep at first", shaft.keep(0), 0);
        shaft.pass(60);
        due("keep", shaft.keep(1), 60);
        due("restore the time 0", shaft.restore(0), 0);
        due("no wires", shaft.count(1), 0);
        due("tolerance", shaft.count(6), 10);
        due("restore", shaft.restore(1), 60);
    }

    private static void keepInPlace() {
        sentence("keep: Takes a snapshot of the state into a slot, in place of what is there.");
        PlumbShaft shaft = new PlumbShaft();
        shaft.pass(1);
        shaft.keep(0);
        shaft.keep(1);
        shaft.pass(1);
        due("keep", shaft.keep(0), 2);
        shaft.pass(1);
        due("the new one", shaft.restore(0), 2);
        due("the other one", shaft.restore(1), 1);
        due("keep is no act", shaft.count(9), 5);
        sentence("restore: Restores the state of a slot, where it stays. This is an act.");
        for (int i = 0; i < 7; i++) {
            due("restore(0)", shaft.restore(0), 2);
            due("pass", shaft.pass(1 + i), 3 + i);
            due("count(9)", shaft.count(9), 5);
        }
        due("undo pass", shaft.undo(), 4);
        due("time", shaft.count(0), 2);
        due("undo restore", shaft.undo(), 3);
        due("time", shaft.count(0), 8);
        shaft = new PlumbShaft();
        shaft.keep(1);
        due("restore what is so already", shaft.restore(1), 0);
        due("is an act", shaft.count(9), 1);
    }

    // ---- a state

    private static void notOfTheState() {
        sentence("A state is everything but the text, the history, the slots and the reason.");
        PlumbShaft shaft = new PlumbShaft();
        shaft.keep(0);
        shaft.pass(1);
        write(shaft, "wait 7");
        shaft.lift(0);
        due("undo", shaft.undo(), 0);
        due("the text's length", shaft.count(10), 6);
        due("the reason", shaft.count(8), 1);
        due("the text", shaft.runOrders(), 1);
        due("time", shaft.count(0), 7);
        shaft.keep(1);
        shaft.clearText();
        due("restore", shaft.restore(0), 0);
        due("the text's length", shaft.count(10), 0);
        due("the reason", shaft.count(8), 1);
        due("the history", shaft.count(9), 2);
        due("the slots", shaft.restore(1), 7);
        due("the history", shaft.count(9), 3);
    }

    /** What count() tells, and one of each other kind of property. */
    private static int[] look(PlumbShaft shaft) {
        int[] seen = new int[44];
        int n = 0;
        for (int what = 0; what < 8; what++) {
            seen[n++] = shaft.count(what);
        }
        for (int what = 0; what <= 10; what++) {
            seen[n++] = shaft.wire(0, what);
            seen[n++] = shaft.wire(3, what);
        }
        for (int what = 0; what < 4; what++) {
            seen[n++] = shaft.station(0, what);
        }
        for (int what = 0; what < 5; what++) {
            seen[n++] = shaft.observation(0, 0, what);
        }
        seen[n++] = shaft.rest(0, 100, 0);
        seen[n++] = shaft.rest(0, 100, 1);
        seen[n++] = shaft.position(0, 100, 0);
        seen[n++] = shaft.position(0, 100, 1);
        seen[n] = shaft.station(1, 0);
        return seen;
    }

    private static void dueAll(String when, int[] got, int[] want) {
        for (int i = 0; i < want.length; i++) {
            due(when + ", property " + i, got[i], want[i]);
        }
    }

    private static PlumbShaft fourWires() {
        PlumbShaft shaft = new PlumbShaft();
        int[] xs = {0, 1000, 0, 1000};
        for (int wire = 0; wire < 4; wire++) {
            shaft.hang(wire, xs[wire], 5, 2, 100);
        }
        shaft.addStation(100, 77);
        shaft.addCurrent(10, 20, 3, 4);
        for (int wire = 0; wire < 4; wire++) {
            shaft.observe(wire, 0, 2);
        }
        return shaft;
    }

    /** Does one kind of act. */
    private static int act(PlumbShaft shaft, int which) {
        switch (which) {
            case 0: return shaft.hang(0, 1, 2, 3, 400);
            case 1: return shaft.lift(3);
            case 2: return shaft.setClamp(0, 1, 2);
            case 3: return shaft.setBucket(0, 1);
            case 4: return shaft.push(0, 1, 2);
            case 5: return shaft.swap(0, 3);
            case 6: return shaft.addCurrent(5, 6, 7, 8);
            case 7: return shaft.clearCurrents();
            case 8: return shaft.addStation(9, 10);
            case 9: return shaft.setTolerance(11);
            case 10: return shaft.pass(3);
            case 11: return shaft.observe(0, 0, 5);
            case 12: return shaft.orient(0);
            case 13: return shaft.runOrders();
            default: return shaft.restore(1);
        }
    }

    /** Four wires, five currents, five stations with all observations, two of them oriented: other values each time. */
    private static void fill(PlumbShaft shaft, int kind) {
        int[] xs = {0, 900 + kind, kind, 900 + 2 * kind};
        for (int wire = 0; wire < 4; wire++) {
            shaft.hang(wire, xs[wire], 10 * wire + 3 * kind, 100 + kind + wire, 200 + 100 * kind + wire);
            shaft.setClamp(wire, kind - wire, kind + 2 * wire);
            shaft.setBucket(wire, (kind + wire) % 3);
        }
        for (int i = 0; i < 5; i++) {
            shaft.addCurrent(i + kind, 20 + 9 * i + 4 * kind, 10 + i + 7 * kind, 40 - 2 * i - 5 * kind);
            shaft.addStation(30 + 10 * i + kind, 100 * i + 13 * kind);
        }
        shaft.setTolerance(490 + kind);
        for (int wire = 0; wire < 4; wire++) {
            shaft.push(wire, (wire + kind) % 8, 10 + 2 * wire + kind);
        }
        for (int station = 0; station < 5; station++) {
            for (int wire = 0; wire < 4; wire++) {
                shaft.observe(wire, station, 1 + station + 2 * wire + kind);
            }
        }
        due("oriented", shaft.orient(kind) >= 0 ? 1 : 0, 1);
        due("oriented", shaft.orient(4) >= 0 ? 1 : 0, 1);
    }

    /** Each property of the state that can be told. */
    private static int[] everything(PlumbShaft shaft) {
        int[] seen = new int[199];
        int n = 0;
        for (int what = 0; what < 8; what++) {
            seen[n++] = shaft.count(what);
        }
        for (int wire = 0; wire < 4; wire++) {
            for (int what = 0; what <= 10; what++) {
                seen[n++] = shaft.wire(wire, what);
            }
            for (int depth = 30; depth <= 200; depth += 34) {
                seen[n++] = shaft.rest(wire, depth, 0);
                seen[n++] = shaft.rest(wire, depth, 1);
            }
        }
        for (int station = 0; station < 5; station++) {
            for (int what = 0; what < 3; what++) {
                seen[n++] = shaft.station(station, what);
            }
            for (int wire = 0; wire < 4; wire++) {
                for (int what = 0; what < 4; what++) {
                    seen[n++] = shaft.observation(station, wire, what);
                }
            }
        }
        for (int wire = 0; wire < 4; wire++) {
            seen[n++] = shaft.observation(4, wire, 4);
        }
        return seen;
    }

    /** Each row of the state holds other values in between, so that each of them has to be brought back. */
    private static void wholeStates() {
        sentence("restore: Restores the state of a slot, where it stays.");
        PlumbShaft first = new PlumbShaft();
        fill(first, 1);
        int[] one = everything(first);
        PlumbShaft shaft = new PlumbShaft();
        shaft.keep(1);
        fill(shaft, 1);
        shaft.keep(0);
        shaft.restore(1);
        due("empty", shaft.count(1) + shaft.count(2) + shaft.count(3), 0);
        fill(shaft, 2);
        shaft.restore(0);
        dueAll("restored", everything(shaft), one);
        sentence("undo() removes and restores the latest one.");
        shaft = new PlumbShaft();
        shaft.keep(1);
        fill(shaft, 2);
        shaft.keep(0);
        shaft.restore(1);
        fill(shaft, 1);
        shaft.restore(0);
        shaft.undo();
        dueAll("undone", everything(shaft), one);
    }

    private static void everyActIsRecorded() {
        sentence("Each call of a method that is described as an act, and returns no error (a refusal is one) and not"
                + " NONE, records the state before it.");
        for (int which = 0; which < 15; which++) {
            PlumbShaft shaft = fourWires();
            shaft.pass(1);
            shaft.keep(1);
            shaft.undo();
            write(shaft, "wait 9;push 0 3 4;look 0 0 1");
            int[] before = look(shaft);
            due("states", shaft.count(9), 4);
            due("act " + which + " is no error", act(shaft, which) >= 0 ? 1 : 0, 1);
            due("act " + which + ": states", shaft.count(9), 5);
            int[] then = look(shaft);
            int changed = 0;
            for (int i = 0; i < then.length; i++) {
                changed += then[i] == before[i] ? 0 : 1;
            }
            due("act " + which + " changes something", changed > 0 ? 1 : 0, 1);
            due("undo of act " + which, shaft.undo(), 4);
            dueAll("undo of act " + which, look(shaft), before);
        }
    }

    private static void everyActAtTheFullHistory() {
        sentence("when one more is recorded, the oldest one is dropped");
        for (int which = 0; which < 15; which++) {
            PlumbShaft shaft = fourWires();
            shaft.keep(1);
            write(shaft, "wait 1");
            int time = shaft.count(0);
            for (int i = 1; i <= 5; i++) {
                shaft.setTolerance(100 + i);
            }
            int[] before = look(shaft);
            act(shaft, which);
            due("act " + which + ": states", shaft.count(9), 5);
            due("undo", shaft.undo(), 4);
            dueAll("undo of act " + which, look(shaft), before);
            for (int i = 4; i >= 1; i--) {
                due("undo", shaft.undo(), i - 1);
                due("tolerance", shaft.count(6), 100 + i);
            }
            due("the tolerance before is dropped", shaft.undo(), NONE);
            due("time", shaft.count(0), time);
        }
    }

    private static void nothingElseIsRecorded() {
        sentence("Each call of a method that is described as an act");
        PlumbShaft shaft = fourWires();
        for (int i = 0; i < 3; i++) {
            shaft.undo();
        }
        due("states", shaft.count(9), 2);
        shaft.type('x');
        shaft.clearText();
        shaft.keep(0);
        shaft.keep(1);
        shaft.wire(0, 0);
        shaft.rest(0, 0, 0);
        shaft.position(0, 0, 0);
        shaft.calmIn(0, 0);
        shaft.station(0, 0);
        shaft.observation(0, 0, 0);
        shaft.bearing(1, 1);
        shaft.surface(0);
        shaft.given(0, 0);
        shaft.count(0);
        due("states", shaft.count(9), 2);
        due("undo", shaft.undo(), 1);
        due("undo", shaft.undo(), 0);
        due("undo", shaft.undo(), NONE);
    }

    // ---- the reason

    private static void reasons() {
        sentence("The reason is 0 at first, and stays until the next refusal.");
        PlumbShaft shaft = new PlumbShaft();
        due("at first", shaft.count(8), 0);
        shaft.addStation(50, 0);
        shaft.hang(0, 0, 0, 1, 49);
        due("no refusal so far", shaft.count(8), 0);
        due("UNKNOWN", shaft.lift(4), UNKNOWN);
        due("BAD_VALUE", shaft.setClamp(1, 21, 0), BAD_VALUE);
        due("NONE", shaft.wire(1, 0), NONE);
        due("given", shaft.given(0, 0), NONE);
        due("surface", shaft.surface(0), NONE);
        due("no refusal so far", shaft.count(8), 0);
        due("REFUSED", shaft.observe(0, 0, 1), REFUSED);
        due("reason", shaft.count(8), 2);
        for (int i = 0; i < 4; i++) {
            shaft.addStation(1, 0);
        }
        due("FULL", shaft.addStation(1, 0), FULL);
        due("right", shaft.observe(0, 1, 1), 0);
        shaft.undo();
        shaft.keep(0);
        shaft.restore(0);
        due("it stays", shaft.count(8), 2);
        due("REFUSED", shaft.lift(1), REFUSED);
        due("reason", shaft.count(8), 1);
        due("REFUSED", shaft.observe(0, 0, 1), REFUSED);
        due("reason", shaft.count(8), 2);
    }

    // ---- 30: count

    private static void countRange() {
        sentence("count: what: 0 to 10; BAD_VALUE");
        PlumbShaft shaft = new PlumbShaft();
        int[] bad = {-1, -2, 11, 12, MIN, MAX};
        for (int what : bad) {
            due("count(" + what + ")", shaft.count(what), BAD_VALUE);
        }
        for (int what = 0; what <= 10; what++) {
            due("count(" + what + ")", shaft.count(what), what == 6 ? 10 : 0);
        }
    }

    /** Each number from its least to its greatest, where it has one. */
    private static void counts() {
        sentence("count: 0 for the time, 1 for wires that are hung, 2 for currents, 3 for stations, 4 for stations with"
                + " an orientation, 5 for observations that are not void, 6 for the tolerance, 7 for ticks that passed"
                + " in observations, 8 for the reason, 9 for the states in the history, 10 for the length of the text");
        PlumbShaft shaft = new PlumbShaft();
        int[] xs = {0, 1000, 0, 1000};
        for (int n = 1; n <= 4; n++) {
            shaft.hang(n - 1, xs[n - 1], 0, 1, 10);
            due("count(1)", shaft.count(1), n);
        }
        for (int n = 1; n <= 5; n++) {
            shaft.addStation(10, 0);
            due("count(3)", shaft.count(3), n);
            shaft.addCurrent(700, 800, 1, 1);
            due("count(2)", shaft.count(2), n);
        }
        int seen = 0;
        for (int station = 0; station < 5; station++) {
            for (int wire = 0; wire < 4; wire++) {
                shaft.observe(wire, station, 60);
                seen++;
                due("count(5)", shaft.count(5), seen);
                due("count(7)", shaft.count(7), 60 * seen);
                due("count(0)", shaft.count(0), 60 * seen);
            }
            due("count(4)", shaft.count(4), station);
            shaft.orient(station);
            due("count(4)", shaft.count(4), station + 1);
        }
        shaft.pass(60);
        due("count(0)", shaft.count(0), 1260);
        due("count(7)", shaft.count(7), 1200);
        shaft.undo();
        shaft.orient(4);
        due("an orientation again", shaft.count(4), 5);
        shaft.observe(3, 4, 1);
        due("an observation again", shaft.count(5), 20);
        shaft.setTolerance(0);
        due("count(6)", shaft.count(6), 0);
        shaft.setTolerance(500);
        due("count(6)", shaft.count(6), 500);
    }

    private static void observedTicks() {
        sentence("count: 7 for ticks that passed in observations");
        PlumbShaft shaft = new PlumbShaft();
        shaft.hang(0, 0, 0, 1, 10);
        shaft.addStation(10, 0);
        shaft.pass(5);
        due("none", shaft.count(7), 0);
        shaft.observe(0, 0, 1);
        due("one", shaft.count(7), 1);
        shaft.observe(0, 0, 60);
        due("61", shaft.count(7), 61);
        shaft.observe(0, 0, 61);
        shaft.observe(1, 0, 60);
        due("61", shaft.count(7), 61);
        shaft.push(0, 0, 1);
        due("void, 61", shaft.count(7), 61);
        due("time", shaft.count(0), 66);
        shaft.undo();
        shaft.undo();
        due("one, after undo", shaft.count(7), 1);
        due("time", shaft.count(0), 6);
    }

    public static void main(String[] args) {
        undo();
        undoIsNoAct();
        slots();
        keepAtZero();
        keepInPlace();
        notOfTheState();
        wholeStates();
        everyActIsRecorded();
        everyActAtTheFullHistory();
        nothingElseIsRecorded();
        reasons();
        countRange();
        counts();
        observedTicks();
        System.out.println(wrong == 0 ? "edges of the history: all as due"
                : "edges of the history: " + wrong + " answers are not as due");
        if (wrong != 0) {
            System.exit(1);
        }
    }
}

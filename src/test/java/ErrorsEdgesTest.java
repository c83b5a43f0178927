import java.util.ArrayList;
import java.util.List;
import java.util.function.Consumer;
import java.util.function.ToIntFunction;

/**
 * What the terms say of errors: each error of each method, each two that can apply at once, and that a call that
 * reports an error or NONE changes nothing. Two shafts get the same calls, and one of them the call with the error
 * besides; then both are asked for all that can be told.
 */
public final class ErrorsEdgesTest {
    private static final int UNKNOWN = -100001;
    private static final int BAD_VALUE = -100002;
    private static final int REFUSED = -100003;
    private static final int FULL = -100004;
    private static final int NONE = -100005;
    private static final String ORDERS = "wait 2;push 0 3 9;look 0 0 2";

    private static int wrong = 0;

    private static void due(String call, int got, int want) {
        if (got != want) {
            wrong++;
            System.out.println(call + " answered " + got + ", due is " + want);
        }
    }

    private static void write(PlumbShaft shaft, String text) {
        for (int i = 0; i < text.length(); i++) {
            shaft.type(text.charAt(i));
        }
    }

    /**
     * The wires 0 to 2, of which 0 sways and 2 is short, but not 3; two stations, of which 1 is deeper than the wire
     * 2; one current; observations at both stations; the slot 0 taken; a full history.
     */
    private static void common(PlumbShaft shaft) {
        shaft.hang(0, 0, 0, 5, 100);
        shaft.hang(1, 1000, 10, 5, 100);
        shaft.hang(2, 0, 50, 5, 50);
        shaft.setBucket(0, 1);
        shaft.setClamp(1, 2, -3);
        shaft.push(0, 1, 77);
        shaft.addCurrent(10, 90, 20, -30);
        shaft.addStation(40, 100);
        shaft.addStation(60, 200);
        shaft.observe(0, 0, 3);
        shaft.observe(1, 0, 4);
        shaft.keep(0);
        shaft.observe(1, 1, 5);
        shaft.observe(2, 0, 6);
        write(shaft, ORDERS);
    }

    /** All four wires, and all observations of the station 0, whose pairs agree. */
    private static void oriented(PlumbShaft shaft) {
        common(shaft);
        shaft.hang(3, 1000, 60, 5, 100);
        shaft.setClamp(3, 2, -3);
        shaft.observe(3, 0, 7);
        shaft.push(0, 1, 77);
        shaft.observe(0, 0, 8);
        shaft.setTolerance(500);
        shaft.orient(0);
    }

    /** All that the shaft tells, then what undo, restore and runOrders bring to light of what it doesn't tell. */
    private static List<Integer> all(PlumbShaft shaft) {
        List<Integer> told = new ArrayList<>();
        for (int what = 0; what <= 10; what++) {
            if (what != 8) {
                told.add(shaft.count(what));
            }
        }
        for (int wire = 0; wire < 4; wire++) {
            for (int what = 0; what <= 10; what++) {
                told.add(shaft.wire(wire, what));
            }
            for (int axis = 0; axis < 2; axis++) {
                told.add(shaft.rest(wire, 50, axis));
                told.add(shaft.position(wire, 50, axis));
            }
            told.add(shaft.calmIn(wire, 10));
        }
        for (int station = 0; station < 5; station++) {
            for (int what = 0; what < 4; what++) {
                told.add(shaft.station(station, what));
            }
            for (int wire = 0; wire < 4; wire++) {
                for (int what = 0; what < 5; what++) {
                    told.add(shaft.observation(station, wire, what));
                }
            }
            told.add(shaft.given(station, 0));
            told.add(shaft.given(station, 1));
        }
        told.add(shaft.surface(0));
        told.add(shaft.surface(1));
        for (int i = 0; i < 6; i++) {
            told.add(shaft.undo());
            some(told, shaft);
        }
        for (int slot = 0; slot < 2; slot++) {
            told.add(shaft.restore(slot));
            some(told, shaft);
        }
        told.add(shaft.runOrders());
        some(told, shaft);
        return told;
    }

    private static void some(List<Integer> told, PlumbShaft shaft) {
        for (int what = 0; what <= 7; what++) {
            told.add(shaft.count(what));
        }
        told.add(shaft.wire(0, 8));
        told.add(shaft.wire(0, 9));
        told.add(shaft.wire(2, 0));
    }

    /** A call that reports an error or NONE; the reason then is 9 if it is to stay as it was. */
    private static void error(String call, Consumer<PlumbShaft> ready, ToIntFunction<PlumbShaft> with, int want,
            int reason) {
        PlumbShaft shaft = new PlumbShaft();
        PlumbShaft other = new PlumbShaft();
        ready.accept(shaft);
        ready.accept(other);
        int before = other.count(8);
        due(call, with.applyAsInt(shaft), want);
        due(call + ": reason", shaft.count(8), reason == 9 ? before : reason);
        List<Integer> got = all(shaft);
        List<Integer> kept = all(other);
        for (int i = 0; i < kept.size(); i++) {
            due(call + ": then, told " + i, got.get(i), kept.get(i));
        }
    }

    private static void unknown(String call, ToIntFunction<PlumbShaft> with) {
        error(call, ErrorsEdgesTest::common, with, UNKNOWN, 9);
    }

    private static void bad(String call, ToIntFunction<PlumbShaft> with) {
        error(call, ErrorsEdgesTest::common, with, BAD_VALUE, 9);
    }

    private static void refused(String call, ToIntFunction<PlumbShaft> with, int reason) {
        error(call, ErrorsEdgesTest::common, with, REFUSED, reason);
    }

    private static void none(String call, ToIntFunction<PlumbShaft> with) {
        error(call, ErrorsEdgesTest::common, with, NONE, 9);
    }

    private static void wiresAndCurrents() {
        unknown("hang(4)", s -> s.hang(4, 0, 0, 1, 10));
        unknown("hang(-1), all bad", s -> s.hang(-1, 5001, -5001, 0, 9));
        bad("hang, x", s -> s.hang(0, 5001, 0, 1, 10));
        bad("hang, y", s -> s.hang(3, 0, -5001, 1, 10));
        bad("hang, mass", s -> s.hang(0, 0, 0, 201, 10));
        bad("hang, depth", s -> s.hang(0, 0, 0, 1, 801));
        unknown("lift(4)", s -> s.lift(4));
        unknown("lift(-1)", s -> s.lift(-1));
        refused("lift(3)", s -> s.lift(3), 1);
        unknown("setClamp(4)", s -> s.setClamp(4, 0, 0));
        unknown("setClamp(4), bad", s -> s.setClamp(4, 21, 21));
        bad("setClamp, ex", s -> s.setClamp(0, 21, 0));
        bad("setClamp, ey", s -> s.setClamp(0, 0, -21));
        bad("setClamp, not hung", s -> s.setClamp(3, -21, 0));
        refused("setClamp(3)", s -> s.setClamp(3, 1, 1), 1);
        unknown("setBucket(-1)", s -> s.setBucket(-1, 0));
        unknown("setBucket(-1), bad", s -> s.setBucket(-1, 3));
        bad("setBucket, bucket", s -> s.setBucket(0, 3));
        bad("setBucket, not hung", s -> s.setBucket(3, -1));
        refused("setBucket(3)", s -> s.setBucket(3, 1), 1);
        unknown("push(4)", s -> s.push(4, 0, 1));
        unknown("push(4), bad", s -> s.push(4, 8, 0));
        bad("push, direction", s -> s.push(0, 8, 1));
        bad("push, amplitude", s -> s.push(0, 0, 0));
        bad("push, not hung", s -> s.push(3, 0, 501));
        refused("push(3)", s -> s.push(3, 0, 1), 1);
        unknown("swap(4, 0)", s -> s.swap(4, 0));
        unknown("swap(0, 4)", s -> s.swap(0, 4));
        unknown("swap(4, 4)", s -> s.swap(4, 4));
        unknown("swap(3, 4), not hung", s -> s.swap(3, 4));
        bad("swap(0, 0)", s -> s.swap(0, 0));
        bad("swap(3, 3), not hung", s -> s.swap(3, 3));
        refused("swap(0, 3)", s -> s.swap(0, 3), 1);
        refused("swap(3, 0)", s -> s.swap(3, 0), 1);
        bad("addCurrent, a", s -> s.addCurrent(-1, 10, 0, 0));
        bad("addCurrent, b", s -> s.addCurrent(10, 10, 0, 0));
        bad("addCurrent, fx", s -> s.addCurrent(0, 10, 51, 0));
        bad("addCurrent, fy", s -> s.addCurrent(0, 10, 0, -51));
    }

    private static void full() {
        Consumer<PlumbShaft> fiveCurrents = s -> {
            common(s);
            for (int i = 0; i < 4; i++) {
                s.addCurrent(i, 800, i, i);
            }
            s.observe(0, 0, 1);
        };
        error("addCurrent, full", fiveCurrents, s -> s.addCurrent(0, 1, 0, 0), FULL, 9);
        error("addCurrent, full and bad", fiveCurrents, s -> s.addCurrent(0, 0, 0, 0), BAD_VALUE, 9);
        error("addCurrent, full and bad", fiveCurrents, s -> s.addCurrent(0, 1, 0, 51), BAD_VALUE, 9);
        Consumer<PlumbShaft> fiveStations = s -> {
            common(s);
            for (int i = 0; i < 3; i++) {
                s.addStation(i + 1, i);
            }
        };
        error("addStation, full", fiveStations, s -> s.addStation(1, 0), FULL, 9);
        error("addStation, full and bad", fiveStations, s -> s.addStation(0, 0), BAD_VALUE, 9);
        error("addStation, full and bad", fiveStations, s -> s.addStation(1, 8000), BAD_VALUE, 9);
        error("orient(5)", fiveStations, s -> s.orient(5), UNKNOWN, 9);
        error("observe(0, 5)", fiveStations, s -> s.observe(0, 5, 1), UNKNOWN, 9);
        Consumer<PlumbShaft> fullText = s -> {
            common(s);
            s.clearText();
            write(s, "wait 1;".repeat(9) + "wait 12");
        };
        error("type, full", fullText, s -> s.type('3'), FULL, 9);
        error("type, full", fullText, s -> s.type(';'), FULL, 9);
    }

    private static void stationsAndObserving() {
        bad("addStation, depth", s -> s.addStation(801, 0));
        bad("addStation, frame", s -> s.addStation(1, -1));
        bad("setTolerance", s -> s.setTolerance(501));
        bad("pass", s -> s.pass(0));
        bad("pass", s -> s.pass(61));
        unknown("observe(4, 0)", s -> s.observe(4, 0, 1));
        unknown("observe(0, 2)", s -> s.observe(0, 2, 1));
        unknown("observe(0, -1)", s -> s.observe(0, -1, 1));
        unknown("observe(4, 2)", s -> s.observe(4, 2, 1));
        unknown("observe(4, 0), bad", s -> s.observe(4, 0, 0));
        unknown("observe(0, 2), bad", s -> s.observe(0, 2, 61));
        unknown("observe(3, 2), not hung", s -> s.observe(3, 2, 1));
        bad("observe, ticks", s -> s.observe(0, 0, 61));
        bad("observe, ticks, not hung", s -> s.observe(3, 0, 0));
        bad("observe, ticks, too deep", s -> s.observe(2, 1, 0));
        refused("observe(3, 0)", s -> s.observe(3, 0, 1), 1);
        refused("observe(2, 1)", s -> s.observe(2, 1, 1), 2);
        unknown("orient(2)", s -> s.orient(2));
        unknown("orient(-1)", s -> s.orient(-1));
        refused("orient(0)", s -> s.orient(0), 1);
    }

    private static void orientRefused() {
        Consumer<PlumbShaft> oriented = ErrorsEdgesTest::oriented;
        error("orient(1)", oriented, s -> s.orient(1), REFUSED, 3);
        error("orient(2)", oriented, s -> s.orient(2), UNKNOWN, 9);
        Consumer<PlumbShaft> atOnePlace = s -> {
            oriented(s);
            s.hang(3, 0, 50, 5, 100);
            s.observe(3, 0, 1);
        };
        error("orient(0)", atOnePlace, s -> s.orient(0), REFUSED, 4);
        error("given(0, 1)", atOnePlace, s -> s.given(0, 1), NONE, 9);
        error("surface(1)", atOnePlace, s -> s.surface(1), NONE, 9);
        Consumer<PlumbShaft> notAgreeing = s -> {
            oriented(s);
            s.setClamp(3, 2, 17);
            s.observe(3, 0, 1);
            s.setTolerance(0);
        };
        error("orient(0)", notAgreeing, s -> s.orient(0), REFUSED, 5);
    }

    private static void oneReasonAfterAnother() {
        // the reason 2 stands already; it stays, but for a refusal
        Consumer<PlumbShaft> refusedBefore = s -> {
            common(s);
            s.observe(2, 1, 1);
        };
        error("lift(4) after a refusal", refusedBefore, s -> s.lift(4), UNKNOWN, 2);
        error("pass(0) after a refusal", refusedBefore, s -> s.pass(0), BAD_VALUE, 2);
        error("wire(3, 0) after a refusal", refusedBefore, s -> s.wire(3, 0), NONE, 2);
        error("lift(3) after a refusal", refusedBefore, s -> s.lift(3), REFUSED, 1);
        error("given(0, 1) after a refusal", refusedBefore, s -> s.given(0, 1), NONE, 2);
    }

    private static void ordersAndHistory() {
        String[] texts = {"", "x", "wait 1;push 0 0 1;swap 0 1;wait 61", "wait 1;", "push 3 0 1;wait"};
        int[] faults = {0, 0, 32, 7, 15};
        for (int i = 0; i < texts.length; i++) {
            String text = texts[i];
            Consumer<PlumbShaft> ready = s -> {
                common(s);
                s.clearText();
                write(s, text);
            };
            error("runOrders of \"" + text + "\"", ready, s -> s.runOrders(), -100 - faults[i], 9);
        }
        Consumer<PlumbShaft> noHistory = s -> {
            common(s);
            for (int i = 0; i < 5; i++) {
                s.undo();
            }
        };
        error("undo", noHistory, s -> s.undo(), NONE, 9);
        error("undo twice", noHistory, s -> s.undo() == NONE ? s.undo() : 0, NONE, 9);
        error("undo of a new one", s -> { }, s -> s.undo(), NONE, 9);
        unknown("keep(2)", s -> s.keep(2));
        unknown("keep(-1)", s -> s.keep(-1));
        unknown("restore(2)", s -> s.restore(2));
        unknown("restore(-1)", s -> s.restore(-1));
        none("restore(1)", s -> s.restore(1));
        Consumer<PlumbShaft> noCurrents = s -> {
            common(s);
            s.clearCurrents();
            s.observe(0, 0, 1);
        };
        error("clearCurrents", noCurrents, s -> s.clearCurrents(), NONE, 9);
    }

    private static void whatIsTold() {
        unknown("wire(4, 11)", s -> s.wire(4, 11));
        bad("wire(3, 11), not hung", s -> s.wire(3, 11));
        bad("wire(0, -1)", s -> s.wire(0, -1));
        none("wire(3, 10)", s -> s.wire(3, 10));
        unknown("rest(4, 801, 2)", s -> s.rest(4, 801, 2));
        bad("rest(3, 801, 0), not hung", s -> s.rest(3, 801, 0));
        bad("rest(3, 0, 2), not hung", s -> s.rest(3, 0, 2));
        bad("rest(2, 51, 2), not so deep", s -> s.rest(2, 51, 2));
        none("rest(3, 0, 0)", s -> s.rest(3, 0, 0));
        none("rest(2, 51, 0)", s -> s.rest(2, 51, 0));
        unknown("position(4, 801, 2)", s -> s.position(4, 801, 2));
        bad("position(3, 801, 0), not hung", s -> s.position(3, 801, 0));
        bad("position(3, 0, 2), not hung", s -> s.position(3, 0, 2));
        bad("position(2, 51, 2), not so deep", s -> s.position(2, 51, 2));
        none("position(3, 0, 0)", s -> s.position(3, 0, 0));
        none("position(2, 51, 0)", s -> s.position(2, 51, 0));
        unknown("calmIn(4, 501)", s -> s.calmIn(4, 501));
        bad("calmIn(3, 501), not hung", s -> s.calmIn(3, 501));
        none("calmIn(3, 0)", s -> s.calmIn(3, 0));
        unknown("station(2, 4)", s -> s.station(2, 4));
        bad("station(0, 4)", s -> s.station(0, 4));
        none("station(0, 2)", s -> s.station(0, 2));
        unknown("observation(2, 0, 5)", s -> s.observation(2, 0, 5));
        unknown("observation(0, 4, 5)", s -> s.observation(0, 4, 5));
        bad("observation(0, 3, 5), never made", s -> s.observation(0, 3, 5));
        none("observation(0, 3, 0)", s -> s.observation(0, 3, 0));
        bad("bearing(0, 0)", s -> s.bearing(0, 0));
        bad("bearing(20001, 0)", s -> s.bearing(20001, 0));
        unknown("surface(2)", s -> s.surface(2));
        none("surface(1)", s -> s.surface(1));
        unknown("given(2, 0)", s -> s.given(2, 0));
        unknown("given(0, 2)", s -> s.given(0, 2));
        unknown("given(1, 2), not observed", s -> s.given(1, 2));
        none("given(0, 1)", s -> s.given(0, 1));
        none("given(1, 0)", s -> s.given(1, 0));
        bad("count(11)", s -> s.count(11));
        bad("count(-1)", s -> s.count(-1));
    }

    /** The calls that tell change nothing either when they report no error. */
    private static void tellingChangesNothing() {
        Consumer<PlumbShaft> oriented = ErrorsEdgesTest::oriented;
        error("wire(0, 3)", oriented, s -> s.wire(0, 3), 100, 9);
        error("rest(0, 0, 0)", oriented, s -> s.rest(0, 0, 0), 0, 9);
        error("position(0, 0, 1)", oriented, s -> s.position(0, 0, 1), 0, 9);
        error("calmIn(0, 500)", oriented, s -> s.calmIn(0, 500), 0, 9);
        error("calmIn(0, 0)", oriented, s -> s.calmIn(0, 0) > 0 ? 1 : 0, 1, 9);
        error("station(0, 0)", oriented, s -> s.station(0, 0), 40, 9);
        error("observation(0, 0, 3)", oriented, s -> s.observation(0, 0, 3), 8, 9);
        error("bearing(1, 1)", oriented, s -> s.bearing(1, 1), 1000, 9);
        error("surface(0)", oriented, s -> s.surface(0), 19, 9);
        error("given(0, 0)", oriented, s -> s.given(0, 0) >= 0 ? 1 : 0, 1, 9);
        error("count(6)", oriented, s -> s.count(6), 500, 9);
    }

    public static void main(String[] args) {
        wiresAndCurrents();
        full();
        stationsAndObserving();
        orientRefused();
        oneReasonAfterAnother();
        ordersAndHistory();
        whatIsTold();
        tellingChangesNothing();
        System.out.println(wrong == 0 ? "edges of the errors: all as due"
                : "edges of the errors: " + wrong + " answers are not as due");
        if (wrong != 0) {
            System.exit(1);
        }
    }
}

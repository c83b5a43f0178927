/** Promises 12, 23 and 24: time that passes, the position of a wire that sways, and when it comes to rest. */
public final class SwayTest {
    private static final int UNKNOWN = -100001;
    private static final int BAD_VALUE = -100002;
    private static final int NONE = -100005;
    private static final int MIN = Integer.MIN_VALUE;
    private static final int MAX = Integer.MAX_VALUE;

    private static int wrong = 0;

    private static void due(String call, int got, int want) {
        if (got != want) {
            wrong++;
            System.out.println(call + " answered " + got + ", due is " + want);
        }
    }

    private static void pass() {
        PlumbShaft shaft = new PlumbShaft();
        due("pass(1)", shaft.pass(1), 1);
        due("pass(60)", shaft.pass(60), 61);
        int[] bad = {0, -1, 61, MIN, MAX};
        for (int ticks : bad) {
            due("pass(" + ticks + ")", shaft.pass(ticks), BAD_VALUE);
        }
        due("time", shaft.count(0), 61);
        due("states", shaft.count(9), 2);
        due("no ticks of observations", shaft.count(7), 0);
    }

    private static void phases() {
        PlumbShaft shaft = new PlumbShaft();
        shaft.pass(3);
        shaft.hang(0, 0, 0, 1, 10);
        shaft.hang(1, 0, 0, 1, 800);
        due("phase at first", shaft.wire(0, 9), 0);
        shaft.pass(3);
        due("phase, also without a sway", shaft.wire(0, 9), 3);
        due("phase of the long one", shaft.wire(1, 9), 3);
        shaft.pass(1);
        due("a period has 4 ticks", shaft.wire(0, 9), 0);
        shaft.pass(31);
        due("phase of the long one", shaft.wire(1, 9), 35);
        shaft.pass(1);
        due("a period has 36 ticks", shaft.wire(1, 9), 0);
    }

    private static void amplitudes() {
        int[][] left = {{500, 475, 451, 428}, {500, 350, 245, 171}, {500, 250, 125, 62}};
        for (int bucket = 0; bucket < 3; bucket++) {
            PlumbShaft shaft = new PlumbShaft();
            shaft.hang(2, 0, 0, 1, 150);
            shaft.setBucket(2, bucket);
            shaft.push(2, 0, 500);
            for (int period = 0; period < 4; period++) {
                due("amplitude", shaft.wire(2, 8), left[bucket][period]);
                shaft.pass(7);
                due("amplitude at the period's end", shaft.wire(2, 8), left[bucket][period]);
                shaft.pass(1);
            }
        }
    }

    /** A wire with q = 3 and the amplitude 10: quotients that don't come out even, at every phase. */
    private static void swingOfAPeriod() {
        int[] swings = {0, 3, 6, 10, 6, 3, 0, -3, -6, -10, -6, -3};
        PlumbShaft shaft = new PlumbShaft();
        shaft.hang(0, 100, 200, 1, 200);
        shaft.push(0, 2, 10);
        for (int phase = 0; phase < 12; phase++) {
            due("phase", shaft.wire(0, 9), phase);
            due("x at phase " + phase, shaft.position(0, 200, 0), 100);
            due("y at phase " + phase, shaft.position(0, 200, 1), 200 + swings[phase]);
            // swing * 150 / 200, rounded towards zero
            due("y at 150, phase " + phase, shaft.position(0, 150, 1), 200 + swings[phase] * 3 / 4);
            due("y at the top, phase " + phase, shaft.position(0, 0, 1), 200);
            shaft.pass(1);
        }
        due("amplitude", shaft.wire(0, 8), 9);
        shaft.pass(3);
        due("y in the next period", shaft.position(0, 200, 1), 209);
    }

    private static void directions() {
        int[] x = {1, 1, 0, -1, -1, -1, 0, 1};
        int[] y = {0, 1, 1, 1, 0, -1, -1, -1};
        for (int direction = 0; direction < 8; direction++) {
            PlumbShaft shaft = new PlumbShaft();
            shaft.hang(0, 5, -5, 1, 99);
            shaft.push(0, direction, 33);
            shaft.pass(1);
            due("x to " + direction, shaft.position(0, 99, 0), 5 + 33 * x[direction]);
            due("y to " + direction, shaft.position(0, 99, 1), -5 + 33 * y[direction]);
            due("x to " + direction + " at 50", shaft.position(0, 50, 0), 5 + 16 * x[direction]);
            due("y to " + direction + " at 50", shaft.position(0, 50, 1), -5 + 16 * y[direction]);
            shaft.pass(2);
            due("x back from " + direction, shaft.position(0, 50, 0), 5 - 16 * x[direction]);
            due("y back from " + direction, shaft.position(0, 50, 1), -5 - 16 * y[direction]);
            due("rest", shaft.rest(0, 50, 0), 5);
        }
    }

    private static void positionOnTheRest() {
        PlumbShaft shaft = new PlumbShaft();
        shaft.hang(0, 0, 0, 50, 300);
        shaft.setClamp(0, 2, 3);
        shaft.addCurrent(100, 200, 10, -5);
        due("at rest x", shaft.position(0, 300, 0), 62);
        due("at rest y", shaft.position(0, 300, 1), -27);
        shaft.push(0, 1, 40);
        shaft.pass(4);
        due("swayed x", shaft.position(0, 300, 0), 102);
        due("swayed y", shaft.position(0, 300, 1), 13);
    }

    private static void positionWrongly() {
        PlumbShaft shaft = new PlumbShaft();
        due("not hung", shaft.position(0, 0, 0), NONE);
        due("bad axis, not hung", shaft.position(0, 0, 2), BAD_VALUE);
        due("unknown, bad", shaft.position(4, 801, 2), UNKNOWN);
        due("unknown", shaft.position(-1, 0, 0), UNKNOWN);
        shaft.hang(0, 4, 5, 6, 700);
        due("as deep", shaft.position(0, 700, 1), 5);
        due("not so deep", shaft.position(0, 701, 1), NONE);
        due("not so deep", shaft.position(0, 800, 1), NONE);
        due("bad depth", shaft.position(0, 801, 1), BAD_VALUE);
        due("bad depth", shaft.position(0, -1, 1), BAD_VALUE);
        due("bad axis", shaft.position(0, 1, -1), BAD_VALUE);
        due("bad axis", shaft.position(0, 1, MIN), BAD_VALUE);
        due("states", shaft.count(9), 1);
    }

    private static void calmIn() {
        PlumbShaft shaft = new PlumbShaft();
        shaft.hang(1, 0, 0, 1, 300);
        due("at rest", shaft.calmIn(1, 0), 0);
        shaft.push(1, 0, 100);
        due("so already", shaft.calmIn(1, 100), 0);
        due("so already", shaft.calmIn(1, 500), 0);
        due("one period", shaft.calmIn(1, 99), 16);
        due("one period", shaft.calmIn(1, 95), 16);
        due("two periods", shaft.calmIn(1, 94), 32);
        shaft.pass(5);
        due("the rest of a period", shaft.calmIn(1, 95), 11);
        due("the rest of a period and one", shaft.calmIn(1, 90), 27);
        shaft.setBucket(1, 1);
        due("water: 70, 49, 34", shaft.calmIn(1, 48), 43);
        shaft.setBucket(1, 2);
        due("oil: 50, 25, 12, 6, 3, 1, 0", shaft.calmIn(1, 0), 11 + 6 * 16);
        int states = shaft.count(9);
        int due = shaft.calmIn(1, 12);
        due("oil: 50, 25, 12", due, 43);
        due("it tells only", shaft.count(9), states);
        due("phase", shaft.wire(1, 9), 5);
        due("amplitude", shaft.wire(1, 8), 100);
    }

    private static void calmInAsTimeTells() {
        for (int bucket = 0; bucket < 3; bucket++) {
            PlumbShaft shaft = new PlumbShaft();
            shaft.hang(1, 0, 0, 1, 10);
            shaft.setBucket(1, bucket);
            shaft.push(1, 0, 500);
            int all = shaft.calmIn(1, 0);
            for (int i = 0; i < all; i += 4) {
                due("not calm yet", shaft.wire(1, 8) > 0 ? 1 : 0, 1);
                due("ticks left", shaft.calmIn(1, 0), all - i);
                shaft.pass(4);
            }
            due("calm", shaft.wire(1, 8), 0);
            due("ticks left", shaft.calmIn(1, 0), 0);
        }
    }

    private static void calmInWrongly() {
        PlumbShaft shaft = new PlumbShaft();
        due("not hung", shaft.calmIn(0, 0), NONE);
        due("bad, not hung", shaft.calmIn(0, 501), BAD_VALUE);
        due("bad, not hung", shaft.calmIn(0, -1), BAD_VALUE);
        due("unknown, bad", shaft.calmIn(4, 501), UNKNOWN);
        due("unknown", shaft.calmIn(-1, 0), UNKNOWN);
        shaft.hang(0, 0, 0, 1, 10);
        due("bad", shaft.calmIn(0, 501), BAD_VALUE);
        due("bad", shaft.calmIn(0, MIN), BAD_VALUE);
        due("no reason", shaft.count(8), 0);
    }

    public static void main(String[] args) {
        pass();
        phases();
        amplitudes();
        swingOfAPeriod();
        directions();
        positionOnTheRest();
        positionWrongly();
        calmIn();
        calmInAsTimeTells();
        calmInWrongly();
        System.out.println(wrong == 0 ? "sway: all as due" : "sway: " + wrong + " answers are not as due");
        if (wrong != 0) {
            System.exit(1);
        }
    }
}

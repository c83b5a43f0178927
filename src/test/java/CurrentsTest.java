/** Promises 8, 9 and 22: currents that are added and cleared, and the rest of the wires that they bend. */
public final class CurrentsTest {
    private static final int UNKNOWN = -100001;
    private static final int BAD_VALUE = -100002;
    private static final int FULL = -100004;
    private static final int NONE = -100005;
    private static final int MIN = Integer.MIN_VALUE;
    private static final int MAX = Integer.MAX_VALUE;

    private static int wrong = 0;

    private static void due(String call, int got, int want) {
        if (got != want) {
            wrong++;
            System.out.println(call + " answered " + got + ", due is " + want);
        }
    }

    private static void addCurrent() {
        PlumbShaft shaft = new PlumbShaft();
        due("first", shaft.addCurrent(0, 1, -50, 50), 1);
        due("second", shaft.addCurrent(799, 800, 50, -50), 2);
        due("third", shaft.addCurrent(0, 800, 0, 0), 3);
        due("fourth, as the third", shaft.addCurrent(0, 800, 0, 0), 4);
        due("fifth", shaft.addCurrent(5, 7, 1, 1), 5);
        due("sixth", shaft.addCurrent(5, 7, 1, 1), FULL);
        due("sixth, bad", shaft.addCurrent(5, 5, 1, 1), BAD_VALUE);
        due("currents", shaft.count(2), 5);
        due("states", shaft.count(9), 5);
        due("undo", shaft.undo(), 4);
        due("currents", shaft.count(2), 4);
        due("fifth again", shaft.addCurrent(6, 7, 1, 1), 5);
    }

    private static void addWrongly() {
        PlumbShaft shaft = new PlumbShaft();
        int[][] bad = {{-1, 5, 0, 0}, {800, 801, 0, 0}, {800, 800, 0, 0}, {5, 5, 0, 0}, {5, 4, 0, 0}, {0, 801, 0, 0},
            {0, 0, 0, 0}, {MAX, MIN, 0, 0}, {MAX, 800, 0, 0}, {MIN, 5, 0, 0}, {0, MAX, 0, 0}, {0, 5, -51, 0},
            {0, 5, 51, 0}, {0, 5, 0, -51}, {0, 5, 0, 51}, {0, 5, MIN, 0}, {0, 5, 0, MAX}};
        for (int[] b : bad) {
            due("bad current", shaft.addCurrent(b[0], b[1], b[2], b[3]), BAD_VALUE);
        }
        due("currents", shaft.count(2), 0);
        due("states", shaft.count(9), 0);
    }

    private static void currentsMakeVoid() {
        PlumbShaft shaft = new PlumbShaft();
        shaft.hang(0, 0, 0, 1, 10);
        shaft.hang(3, 0, 0, 1, 10);
        shaft.addStation(5, 0);
        shaft.addStation(6, 0);
        shaft.observe(0, 0, 1);
        shaft.observe(3, 1, 1);
        due("observations", shaft.count(5), 2);
        due("no force", shaft.addCurrent(700, 800, 0, 0), 1);
        due("void", shaft.count(5), 0);
        shaft.observe(0, 1, 1);
        shaft.observe(3, 0, 1);
        due("observations", shaft.count(5), 2);
        due("clear", shaft.clearCurrents(), 1);
        due("void", shaft.count(5), 0);
        shaft.observe(0, 1, 1);
        int states = shaft.count(9);
        due("clear none", shaft.clearCurrents(), NONE);
        due("kept", shaft.count(5), 1);
        due("states", shaft.count(9), states);
    }

    private static void clearCurrents() {
        PlumbShaft shaft = new PlumbShaft();
        due("none", shaft.clearCurrents(), NONE);
        due("states", shaft.count(9), 0);
        shaft.hang(0, 7, 8, 1, 100);
        shaft.addCurrent(0, 100, 10, 20);
        shaft.addCurrent(0, 100, 10, 20);
        due("bent", shaft.rest(0, 100, 0), 7 + 2 * 1000);
        due("clear", shaft.clearCurrents(), 2);
        due("currents", shaft.count(2), 0);
        due("straight", shaft.rest(0, 100, 0), 7);
        due("first anew", shaft.addCurrent(0, 50, 1, 2), 1);
        due("bent x", shaft.rest(0, 100, 0), 7 + 50);
        due("bent y", shaft.rest(0, 100, 1), 8 + 100);
    }

    private static void restAlongOneCurrent() {
        PlumbShaft shaft = new PlumbShaft();
        shaft.hang(0, 100, -200, 7, 400);
        shaft.setClamp(0, -6, 9);
        due("unbent x", shaft.rest(0, 400, 0), 94);
        due("unbent y", shaft.rest(0, 0, 1), -191);
        shaft.addCurrent(100, 300, 3, -3);
        due("above the current", shaft.rest(0, 100, 0), 94);
        due("at the top", shaft.rest(0, 0, 0), 94);
        // 3 * 1 * 101 / 700 is 0, and -3 * 1 * 101 / 700 rounds down to -1
        due("just in it, x", shaft.rest(0, 101, 0), 94);
        due("just in it, y", shaft.rest(0, 101, 1), -192);
        // 3 * 100 * 200 / 700 is 85.7
        due("in it, x", shaft.rest(0, 200, 0), 94 + 85);
        due("in it, y", shaft.rest(0, 200, 1), -191 - 86);
        // 3 * 200 * 301 / 700 is 258
        due("below it, x", shaft.rest(0, 301, 0), 94 + 258);
        due("below it, y", shaft.rest(0, 301, 1), -191 - 258);
        due("at its end, x", shaft.rest(0, 400, 0), 94 + 342);
    }

    private static void restAlongMoreCurrents() {
        PlumbShaft shaft = new PlumbShaft();
        shaft.hang(1, 0, 0, 200, 10);
        // each -1 * 5 * 10 / 20000 rounds down to -1 by itself
        for (int i = 1; i <= 5; i++) {
            shaft.addCurrent(0, 5, -1, 1);
            due("each rounded by itself", shaft.rest(1, 10, 0), -i);
            due("each rounded by itself", shaft.rest(1, 10, 1), 0);
        }
        due("at no depth", shaft.rest(1, 0, 0), 0);
        shaft = new PlumbShaft();
        shaft.hang(1, 5000, -5000, 1, 800);
        for (int i = 1; i <= 5; i++) {
            shaft.addCurrent(0, 800, 50, -50);
        }
        due("as far as can be", shaft.rest(1, 800, 0), 5000 + 5 * 320000);
        due("as far as can be", shaft.rest(1, 800, 1), -5000 - 5 * 320000);
    }

    private static void restWrongly() {
        PlumbShaft shaft = new PlumbShaft();
        due("not hung", shaft.rest(0, 0, 0), NONE);
        due("bad axis, not hung", shaft.rest(0, 0, 2), BAD_VALUE);
        due("bad depth, not hung", shaft.rest(0, 801, 0), BAD_VALUE);
        due("unknown, bad", shaft.rest(4, 801, 2), UNKNOWN);
        due("unknown", shaft.rest(-1, 0, 0), UNKNOWN);
        shaft.hang(0, 4, 5, 6, 700);
        due("as deep", shaft.rest(0, 700, 1), 5);
        due("not so deep", shaft.rest(0, 701, 1), NONE);
        due("not so deep", shaft.rest(0, 800, 1), NONE);
        due("bad depth", shaft.rest(0, 801, 1), BAD_VALUE);
        due("bad depth", shaft.rest(0, -1, 1), BAD_VALUE);
        due("bad depth", shaft.rest(0, MIN, 1), BAD_VALUE);
        due("bad axis", shaft.rest(0, 1, -1), BAD_VALUE);
        due("bad axis", shaft.rest(0, 1, 2), BAD_VALUE);
        due("bad axis, not so deep", shaft.rest(0, 701, MAX), BAD_VALUE);
        due("states", shaft.count(9), 1);
        due("no reason", shaft.count(8), 0);
    }

    public static void main(String[] args) {
        addCurrent();
        addWrongly();
        currentsMakeVoid();
        clearCurrents();
        restAlongOneCurrent();
        restAlongMoreCurrents();
        restWrongly();
        System.out.println(wrong == 0 ? "currents: all as due" : "currents: " + wrong + " answers are not as due");
        if (wrong != 0) {
            System.exit(1);
        }
    }
}

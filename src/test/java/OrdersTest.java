/** Promises 15 to 17: the text that is typed and emptied, its faults, and its orders that are carried out. */
public final class OrdersTest {
    private static final int UNKNOWN = -100001;
    private static final int BAD_VALUE = -100002;
    private static final int FULL = -100004;
    private static final int NONE = -100005;

    private static int wrong = 0;

    private static void due(String call, int got, int want) {
        if (got != want) {
            wrong++;
            System.out.println(call + " answered " + got + ", due is " + want);
        }
    }

    private static void write(PlumbShaft shaft, String text) {
        shaft.clearText();
        for (int i = 0; i < text.length(); i++) {
            due("type in \"" + text + "\"", shaft.type(text.charAt(i)), i + 1);
        }
    }

    private static int run(PlumbShaft shaft, String text) {
        write(shaft, text);
        return shaft.runOrders();
    }

    private static void typing() {
        PlumbShaft shaft = new PlumbShaft();
        due("nothing there", shaft.clearText(), 0);
        for (int i = 1; i <= 70; i++) {
            due("type", shaft.type((char) (i * 900)), i);
        }
        due("the 71st", shaft.type('a'), FULL);
        due("the 71st", shaft.type((char) 0), FULL);
        due("length", shaft.count(10), 70);
        due("clear", shaft.clearText(), 70);
        due("length", shaft.count(10), 0);
        due("clear", shaft.clearText(), 0);
        due("type", shaft.type((char) 65535), 1);
        due("type", shaft.type((char) 0), 2);
        due("no acts", shaft.count(9), 0);
        due("no undo", shaft.undo(), NONE);
        due("length", shaft.count(10), 2);
    }

    /** A text with the fault at the index; a new object each, as their calls are counted. */
    private static void fault(int index, String text) {
        PlumbShaft shaft = new PlumbShaft();
        shaft.hang(0, 0, 0, 1, 10);
        due("\"" + text + "\"", run(shaft, text), -100 - index);
        due("\"" + text + "\": no act", shaft.count(9), 1);
        due("\"" + text + "\": no time", shaft.count(0), 0);
        due("\"" + text + "\": no reason", shaft.count(8), 0);
        due("\"" + text + "\" stays", shaft.count(10), text.length());
    }

    private static void faultsOfWords() {
        fault(0, "");
        fault(0, " ");
        fault(0, ";");
        fault(0, " wait 1");
        fault(0, "wai");
        fault(0, "wait1");
        fault(0, "waits 1");
        fault(0, "Wait 1");
        fault(0, "wait\t1");
        fault(0, "pust 0 0 1");
        fault(0, "swaq 0 1");
        fault(0, "lookk 0 0 1");
        fault(0, "orien 0");
        fault(0, "1");
        fault(7, "wait 1; wait 1");
        fault(7, "wait 1;;wait 1");
        fault(7, "wait 1;");
        fault(7, "wait 1;x");
        fault(7, "wait 1;wait1");
        fault(4, "wait");
        fault(4, "push");
        fault(6, "orient");
        fault(4, "wait;");
        fault(4, "wait;wait 1");
        fault(0, "push" + (char) 160 + "0 0 1");
    }

    private static void faultsOfNumbers() {
        fault(5, "wait ");
        fault(5, "wait  1");
        fault(5, "wait ;");
        fault(5, "wait 0");
        fault(5, "wait 000");
        fault(5, "wait 61");
        fault(5, "wait 061;wait 1");
        fault(5, "wait 0001");
        fault(5, "wait 1a");
        fault(5, "wait -1");
        fault(5, "wait +1");
        fault(5, "wait /");
        fault(5, "wait :");
        fault(5, "wait " + (char) 0x661);
        fault(5, "wait wait");
        fault(5, "push 4 0 1");
        fault(5, "push 10 0 1");
        fault(7, "push 0 8 1");
        fault(9, "push 0 0 0");
        fault(9, "push 0 0 501");
        fault(9, "push 0 7 999");
        fault(5, "look 4 0 1");
        fault(7, "look 0 5 1");
        fault(9, "look 0 0 0");
        fault(9, "look 0 0 61");
        fault(5, "swap 4 0");
        fault(7, "swap 0 4");
        fault(7, "orient 5");
        fault(7, "orient 10");
        fault(7, "orient x");
    }

    private static void faultsBetween() {
        fault(6, "push 0");
        fault(6, "push 0;");
        fault(8, "push 0 0");
        fault(8, "push 0 0;wait 1");
        fault(8, "look 0 0;");
        fault(8, "look 0 0");
        fault(6, "swap 0");
        fault(6, "swap 0;1");
        fault(8, "swap 0 1 ");
        fault(8, "swap 0 1 2");
        fault(6, "wait 1 ");
        fault(6, "wait 1 ;wait 1");
        fault(10, "push 0 0 1 ;");
        fault(8, "orient 0 0");
        fault(9, "push 0 0 ");
        fault(9, "push 0 0  1");
        fault(8, "wait 060 ");
        // the first one from the beginning counts
        fault(5, "wait 0;wait 0;wiat 1");
        fault(12, "wait 1;wait 0;wiat 1");
        fault(14, "wait 1;wait 1;wiat 0");
    }

    private static void longTexts() {
        String nine = "wait 1;wait 1;wait 1;wait 1;wait 1;wait 1;wait 1;wait 1;wait 1;";
        PlumbShaft shaft = new PlumbShaft();
        due("ten orders", run(shaft, nine + "wait 1"), 10);
        due("ten orders of 70", run(shaft, nine + "wait 60"), 10);
        due("time", shaft.count(0), 10 + 69);
        due("one act each", shaft.count(9), 2);
        fault(70, nine + "wait 1;");
        fault(69, nine + "wait 1 ");
        fault(68, nine + "wait 00");
        fault(68, nine + "wait  ");
        fault(68, nine + "wait ");
        fault(63, nine + "orien");
    }

    private static void zerosInFront() {
        PlumbShaft shaft = new PlumbShaft();
        due("wait 01", run(shaft, "wait 01"), 1);
        due("wait 001", run(shaft, "wait 001"), 1);
        due("wait 60", run(shaft, "wait 060"), 1);
        due("time", shaft.count(0), 62);
        due("the text stays", shaft.count(10), 8);
        due("run again", shaft.runOrders(), 1);
        due("time", shaft.count(0), 122);
    }

    private static void ordersStandForMethods() {
        PlumbShaft shaft = new PlumbShaft();
        shaft.hang(0, 0, 0, 1, 10);
        shaft.hang(1, 10, 0, 1, 10);
        shaft.hang(2, 0, 0, 1, 10);
        shaft.hang(3, 10, 0, 1, 20);
        shaft.addStation(10, 6000);
        due("push", run(shaft, "push 3 7 500"), 1);
        due("direction", shaft.wire(3, 7), 7);
        due("amplitude", shaft.wire(3, 8), 500);
        due("push", run(shaft, "push 000 06 001"), 1);
        due("direction", shaft.wire(0, 7), 6);
        due("amplitude", shaft.wire(0, 8), 1);
        due("swap", run(shaft, "swap 3 2"), 1);
        due("x", shaft.wire(3, 0), 0);
        due("x", shaft.wire(2, 0), 10);
        due("amplitude", shaft.wire(3, 8), 0);
        due("push", run(shaft, "push 0 0 2;wait 2"), 2);
        due("look", run(shaft, "look 0 0 2"), 1);
        due("ticks", shaft.observation(0, 0, 3), 2);
        due("end", shaft.observation(0, 0, 4), 4);
        due("mean x: 0 and -2", shaft.observation(0, 0, 0), -1);
        due("ticks of observations", shaft.count(7), 2);
        due("look", run(shaft, "look 1 0 60;look 2 0 1;look 3 0 1;look 0 0 4"), 4);
        due("states", shaft.count(9), 5);
        due("orient", run(shaft, "orient 0"), 1);
        due("orientation", shaft.station(0, 2), 2000);
        shaft.setClamp(1, 0, 20);
        due("look, orient", run(shaft, "look 1 0 1;orient 0;wait 1"), 1);
        due("reason", shaft.count(8), 5);
        shaft.setClamp(1, 0, 0);
        due("swaps", run(shaft, "swap 3 2;push 0 0 1;wait 60;swap 0 1;look 2 0 1;look 3 0 1"), 6);
        due("look, orient", run(shaft, "look 0 0 1;look 1 0 1;orient 0"), 3);
        due("a swap turns the pair, also at the station", shaft.surface(0), 4000);
        due("orientation", shaft.station(0, 2), 2000);
    }

    /** Orders up to the first one whose method would return an error. */
    private static void stops() {
        PlumbShaft shaft = new PlumbShaft();
        shaft.hang(0, 0, 0, 1, 10);
        due("no station", run(shaft, "wait 2;look 0 0 1;wait 3"), 1);
        due("time", shaft.count(0), 2);
        due("no reason", shaft.count(8), 0);
        due("states", shaft.count(9), 2);
        due("both the same", run(shaft, "swap 0 0;wait 3"), 0);
        due("no station", run(shaft, "orient 4;wait 3"), 0);
        due("time", shaft.count(0), 2);
        due("an act, also if none is carried out", shaft.count(9), 4);
        due("not hung", run(shaft, "wait 1;wait 1;push 1 0 1;wait 1"), 2);
        due("reason", shaft.count(8), 1);
        due("time", shaft.count(0), 4);
        shaft.addStation(11, 0);
        due("too deep", run(shaft, "look 0 0 1"), 0);
        due("reason", shaft.count(8), 2);
        due("not hung", run(shaft, "wait 1;look 1 0 1"), 1);
        due("reason", shaft.count(8), 1);
        due("look: UNKNOWN before the reason 2", run(shaft, "look 0 1 1"), 0);
        due("the reason stays", shaft.count(8), 1);
        due("not hung", run(shaft, "swap 0 1"), 0);
    }

    private static void oneAct() {
        PlumbShaft shaft = new PlumbShaft();
        shaft.hang(2, 3, 4, 1, 10);
        due("three orders", run(shaft, "wait 5;push 2 1 9;wait 6"), 3);
        due("one state more", shaft.count(9), 2);
        due("time", shaft.count(0), 11);
        due("undo", shaft.undo(), 1);
        due("time", shaft.count(0), 0);
        due("amplitude", shaft.wire(2, 8), 0);
        due("the text is not undone", shaft.count(10), 24);
        due("run again", shaft.runOrders(), 3);
        due("refused", run(shaft, "wait 5;push 0 1 9"), 1);
        due("undo", shaft.undo(), 2);
        due("time", shaft.count(0), 11);
        due("the reason is not undone", shaft.count(8), 1);
        due("the next call is an act of its own", shaft.pass(1), 12);
        due("states", shaft.count(9), 3);
    }

    private static void faultsComeFirst() {
        PlumbShaft shaft = new PlumbShaft();
        shaft.hang(2, 3, 4, 1, 10);
        due("none is carried out", run(shaft, "wait 5;push 0 1 9;orient"), -124);
        due("time", shaft.count(0), 0);
        due("reason", shaft.count(8), 0);
        due("states", shaft.count(9), 1);
        due("an order that would stop is no fault", run(shaft, "swap 0 0;wait 61"), -114);
        due("states", shaft.count(9), 1);
        due("swap", run(shaft, "swap 0 0"), 0);
        due("BAD_VALUE tells itself elsewhere", shaft.swap(0, 0), BAD_VALUE);
        due("UNKNOWN tells itself elsewhere", shaft.orient(0), UNKNOWN);
    }

    public static void main(String[] args) {
        typing();
        faultsOfWords();
        faultsOfNumbers();
        faultsBetween();
        longTexts();
        zerosInFront();
        ordersStandForMethods();
        stops();
        oneAct();
        faultsComeFirst();
        System.out.println(wrong == 0 ? "orders: all as due" : "orders: " + wrong + " answers are not as due");
        if (wrong != 0) {
            System.exit(1);
        }
    }
}

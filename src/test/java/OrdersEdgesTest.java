/** Promises 15 to 17 and what the terms say of orders, each sentence just at its boundary and just beside it. */
public final class OrdersEdgesTest {
    private static final int FULL = -100004;
    private static final int NONE = -100005;
    private static final int NO_FAULT = -1;

    private static int wrong = 0;
    private static String said = "";

    /** The sentence of the document that the next checks belong to. */
    private static void sentence(String quote) {
        said = quote;
    }

    private static void due(String call, int got, int want) {
        if (got != want) {
            wrong++;
            System.out.println("\"" + said + "\": " + call + " answered " + got + ", due is " + want);
        }
    }

    private static void write(PlumbShaft shaft, String text) {
        shaft.clearText();
        for (int i = 0; i < text.length(); i++) {
            shaft.type(text.charAt(i));
        }
    }

    private static int run(PlumbShaft shaft, String text) {
        write(shaft, text);
        return shaft.runOrders();
    }

    /** The fault of a text, run by a shaft without wires, that refuses all orders but those to wait. */
    private static void fault(String text, int index) {
        PlumbShaft shaft = new PlumbShaft();
        int answer = run(shaft, text);
        if (index == NO_FAULT) {
            due("\"" + text + "\"", answer >= 0 ? NO_FAULT : answer, NO_FAULT);
        } else {
            due("\"" + text + "\"", answer, -100 - index);
        }
        due("\"" + text + "\": states", shaft.count(9), index == NO_FAULT ? 1 : 0);
    }

    // ---- 15, 16: type, clearText

    private static void typing() {
        sentence("type returns the length of the text then; FULL if it has 70 characters.");
        PlumbShaft shaft = new PlumbShaft();
        due("clear at first", shaft.clearText(), 0);
        for (int round = 0; round < 2; round++) {
            for (int i = 1; i <= 70; i++) {
                due("count(10)", shaft.count(10), i - 1);
                due("type", shaft.type('w'), i);
            }
            due("the 71st", shaft.type('w'), FULL);
            due("count(10)", shaft.count(10), 70);
            due("clear", shaft.clearText(), 70);
            due("clear again", shaft.clearText(), 0);
        }
        sentence("clearText: Empties the text. Returns the length that it had.");
        int[] lengths = {0, 1, 69, 70};
        for (int length : lengths) {
            shaft = new PlumbShaft();
            write(shaft, "x".repeat(length));
            due("clear", shaft.clearText(), length);
            due("count(10)", shaft.count(10), 0);
            due("the first one", shaft.type('x'), 1);
        }
    }

    private static void anyCharacter() {
        sentence("type: character: any character");
        int[] characters = {0, 1, 31, 32, 47, 48, 57, 58, 59, 60, 127, 128, 255, 256, 0xd7ff, 0xd800, 0xdfff, 0xe000,
            0xfffe, 0xffff};
        PlumbShaft shaft = new PlumbShaft();
        for (int i = 0; i < characters.length; i++) {
            due("type " + characters[i], shaft.type((char) characters[i]), i + 1);
        }
        due("clear", shaft.clearText(), characters.length);
    }

    // ---- the ranges

    private static final String[][] PLACES = {
        {"wait ", "", "N"}, {"push ", " 0 1", "W"}, {"push 0 ", " 1", "D"}, {"push 0 0 ", "", "A"},
        {"look ", " 0 1", "W"}, {"look 0 ", " 1", "S"}, {"look 0 0 ", "", "N"}, {"swap ", " 3", "W"},
        {"swap 3 ", "", "W"}, {"orient ", "", "S"}};

    private static boolean isRight(String kind, int number) {
        switch (kind) {
            case "N": return number >= 1 && number <= 60;
            case "W": return number >= 0 && number <= 3;
            case "D": return number >= 0 && number <= 7;
            case "A": return number >= 1 && number <= 500;
            default: return number >= 0 && number <= 4;
        }
    }

    private static void ranges() {
        sentence("A number has 1 to 3 digits (zeros can stand in front). The ranges are: N 1 to 60, W 0 to 3, D 0 to"
                + " 7, A 1 to 500, S 0 to 4");
        String[] formats = {"%d", "%02d", "%03d"};
        for (String[] place : PLACES) {
            for (int number = 0; number <= 999; number++) {
                int index = isRight(place[2], number) ? NO_FAULT : place[0].length();
                for (String format : formats) {
                    fault(place[0] + String.format(format, number) + place[1], index);
                }
                if (number < 10) {
                    fault(place[0] + "000" + number + place[1], place[0].length());
                    fault(place[0] + "0000" + number + place[1], place[0].length());
                }
            }
            fault(place[0] + "1000" + place[1], place[0].length());
            fault(place[0] + "4294967297" + place[1], place[0].length());
        }
    }

    private static void noPart() {
        sentence("whether a wire is hung, both wires are the same, or there is such a station, plays no part.");
        String[] right = {"push 3 0 1", "look 3 4 60", "look 0 0 1", "swap 0 1", "swap 3 3", "swap 0 0", "orient 0",
            "orient 4"};
        for (String text : right) {
            fault(text, NO_FAULT);
        }
    }

    private static void digits() {
        sentence("A number has 1 to 3 digits");
        for (int c = 0; c <= 300; c++) {
            boolean isDigit = c >= '0' && c <= '9';
            char character = (char) c;
            if (c != ' ' && c != ';') {
                fault("wait " + character, isDigit && c != '0' ? NO_FAULT : 5);
                fault("wait 1" + character, isDigit ? NO_FAULT : 5);
                fault("push 0 0 " + character + "1", isDigit ? NO_FAULT : 9);
                fault("push 0 0 1" + character + "1", isDigit ? NO_FAULT : 9);
                fault("push 0 0 11" + character, isDigit ? NO_FAULT : 9);
                fault("push 0 0 111" + character, 9);
            }
        }
        char[] foreign = {0x0660, 0x0661, 0x06f1, 0x0967, 0xff10, 0xff11, 0xff19, 0xffff, 0x0130, 0x3130, 0x3131};
        for (char character : foreign) {
            fault("wait " + character, 5);
            fault("wait 1" + character, 5);
        }
    }

    // ---- the words

    private static final String[] WORDS = {"wait", "push", "look", "swap", "orient"};
    private static final String[] NUMBERS = {" 1", " 1 1 1", " 1 1 1", " 1 2", " 1"};

    private static void words() {
        sentence("wait N | push W D A | look W S N | swap W W | orient S");
        for (int w = 0; w < WORDS.length; w++) {
            String word = WORDS[w];
            String numbers = NUMBERS[w];
            fault(word + numbers, NO_FAULT);
            fault(word.toUpperCase() + numbers, 0);
            fault(word + word + numbers, 0);
            for (int i = 0; i < word.length(); i++) {
                fault(word.substring(0, i) + word.substring(i + 1) + numbers, 0);
                fault(word.substring(0, i), 0);
                char one = word.charAt(i);
                int[] others = {one - 1, one + 1, one - 32, one + 256};
                for (int other : others) {
                    fault(word.substring(0, i) + (char) other + word.substring(i + 1) + numbers, 0);
                }
                fault(word.substring(0, i) + one + word.substring(i) + numbers, 0);
            }
            // each word with the numbers of each other one
            for (int v = 0; v < WORDS.length; v++) {
                int own = numbers.length();
                int given = NUMBERS[v].length();
                int behind = word.length() + Math.min(own, given);
                fault(word + NUMBERS[v], own == given ? NO_FAULT : behind);
            }
        }
    }

    // ---- the fault

    private static void faultOfWord() {
        sentence("The fault of the text is the index, from 0, of the first character of a word or number (what stands"
                + " up to the next blank, \";\" or the end of the text) that is not one of these at its place");
        fault("x", 0);
        fault("waiting 1", 0);
        fault("wai 1", 0);
        fault("1", 0);
        fault("1 wait", 0);
        fault("wait 1;x", 7);
        fault("wait 1;1", 7);
        fault("wait 1;wai", 7);
        fault("wait 1;waits 1", 7);
        fault("wait x", 5);
        fault("wait wait", 5);
        fault("wait 1x", 5);
        fault("wait 1x;wait 1", 5);
        fault("push 1 x 1", 7);
        fault("push 1 1 x", 9);
        fault("push 100 1 1", 5);
        fault("push 003 1 1", NO_FAULT);
        fault("push 003 100 1", 9);
        fault("push 003 007 x", 13);
    }

    private static void faultOfEmptyWord() {
        sentence("(if it is empty, of what stands there instead)");
        fault(" ", 0);
        fault(";", 0);
        fault(" wait 1", 0);
        fault(";wait 1", 0);
        fault("wait 1;;", 7);
        fault("wait 1; ", 7);
        fault("wait 1; wait 1", 7);
        fault("wait 1;;wait 1", 7);
        for (String[] place : PLACES) {
            fault(place[0] + ";", place[0].length());
            fault(place[0] + " ", place[0].length());
            fault(place[0] + ";wait 1", place[0].length());
            fault(place[0] + " 1" + place[1], place[0].length());
        }
    }

    private static void faultBetween() {
        sentence("or of a blank or \";\" that stands where the other one, or the end, has to be");
        for (int w = 0; w < WORDS.length; w++) {
            String order = WORDS[w] + NUMBERS[w];
            // ";" at each place of a blank
            for (int i = 0; i < order.length(); i++) {
                if (order.charAt(i) == ' ') {
                    fault(order.substring(0, i) + ";" + order.substring(i + 1), i);
                    fault(order.substring(0, i) + ";", i);
                    fault(order.substring(0, i) + ";wait 1", i);
                }
            }
            // a blank at the place of ";" and of the end
            fault(order + " ", order.length());
            fault(order + " 1", order.length());
            fault(order + " wait 1", order.length());
            fault(order + " ;wait 1", order.length());
            fault(order + ";" + order, NO_FAULT);
            fault(order + ";" + order + " ", 2 * order.length() + 1);
        }
    }

    private static void otherCharactersBetween() {
        sentence("all separated by single blanks");
        for (int c = 0; c <= 300; c++) {
            char character = (char) c;
            if (c != ' ') {
                fault("wait" + character + "1", c == ';' ? 4 : 0);
                fault("swap 1" + character + "2", c == ';' ? 6 : 5);
            }
            if (c != ';' && c != ' ') {
                fault("wait 1" + character + "wait 1", 5);
                fault("wait 1" + character, c >= '0' && c <= '9' ? NO_FAULT : 5);
            }
        }
    }

    private static void endsTooEarly() {
        sentence("or the length of the text, if all before is right and it ends too early (the empty text does, and one"
                + " that ends with \";\")");
        fault("", 0);
        for (int w = 0; w < WORDS.length; w++) {
            String order = WORDS[w] + NUMBERS[w];
            for (int end = WORDS[w].length(); end <= order.length(); end++) {
                fault(order.substring(0, end), end < order.length() ? end : NO_FAULT);
                fault("wait 1;" + order.substring(0, end), end < order.length() ? 7 + end : NO_FAULT);
            }
            fault(order + ";", order.length() + 1);
            fault(order + ";" + order + ";", 2 * order.length() + 2);
        }
    }

    private static void theFirstFault() {
        sentence("The first one from the beginning counts.");
        fault("wait 0;x", 5);
        fault("wait 1;x;wait 0", 7);
        fault("wait 1;wait 0;", 12);
        fault("push 4 8 0", 5);
        fault("push 3 8 0", 7);
        fault("push 3 7 0", 9);
        fault("push 3 7 0;", 9);
        fault("push 3 7 1;", 11);
        fault("push  x", 5);
        fault("push x ", 5);
        fault("push 0 ;", 7);
        fault("push 0; ", 6);
        fault("swap 0 1 0;x", 8);
        fault("x;wait 1 ", 0);
    }

    private static void longestText() {
        sentence("There is a text of at most 70 characters");
        String nine = "wait 1;".repeat(9);
        fault(nine + "wait 1", NO_FAULT);
        fault(nine + "wait 10", NO_FAULT);
        fault(nine + "wait 61", 68);
        fault(nine + "wait 1;", 70);
        fault(nine + "wait 1 ", 69);
        fault(nine + "wait 1x", 68);
        fault(nine + "wait 1", NO_FAULT);
        fault(nine + "wait  1", 68);
        fault(nine + "wait ", 68);
        fault(nine + "wait", 67);
        fault(nine + "waitin1", 63);
        fault(nine + "orient ", 70);
        fault(nine + "orient", 69);
        fault(nine + "orient;", 69);
        fault(nine + "push 00", 70);
        fault(nine + "swap 0 ", 70);
        fault(nine + "look 0;", 69);
        fault(nine, 63);
        fault("x".repeat(70), 0);
        fault(" ".repeat(70), 0);
        fault(";".repeat(70), 0);
        fault("wait 1" + ";".repeat(64), 7);
        fault("wait " + "1".repeat(65), 5);
        // what does not go in any more plays no part
        PlumbShaft shaft = new PlumbShaft();
        write(shaft, nine + "wait 60;x");
        due("ten orders", shaft.runOrders(), 10);
        due("time", shaft.count(0), 69);
    }

    private static void afterALongerText() {
        sentence("clearText: Empties the text.");
        PlumbShaft shaft = new PlumbShaft();
        due("a long one", run(shaft, "wait 10;wait 20;wait 30"), 3);
        due("a short one", run(shaft, "wait 1"), 1);
        due("time", shaft.count(0), 61);
        due("one that ends too early", run(shaft, "wait 1;wait"), -111);
        due("the empty one", run(shaft, ""), -100);
        due("the one before goes on", run(shaft, "wait 2"), 1);
        shaft.type('0');
        due("typed on", shaft.runOrders(), 1);
        due("time", shaft.count(0), 83);
        shaft.type(';');
        due("typed on", shaft.runOrders(), -108);
    }

    /** A text that stood there before, and was longer, plays no part. */
    private static void beginningsOfALongerText() {
        sentence("clearText: Empties the text.");
        String[] texts = {"push 0 0 1;wait 10", "look 0 0 1;swap 0 1", "orient 4;wait 60"};
        for (String text : texts) {
            for (int end = 0; end < text.length(); end++) {
                String beginning = text.substring(0, end);
                PlumbShaft shaft = new PlumbShaft();
                run(shaft, text);
                due("\"" + beginning + "\"", run(shaft, beginning), run(new PlumbShaft(), beginning));
            }
        }
        PlumbShaft shaft = new PlumbShaft();
        run(shaft, "push 0 0 1");
        due("\"push\"", run(shaft, "push"), -104);
        due("\"push 0 0 1\"", run(shaft, "push 0 0 1"), 0);
        due("\"push 0\"", run(shaft, "push 0"), -106);
        due("\"push 0 0 1\"", run(shaft, "push 0 0 1"), 0);
        due("\"push 0 0\"", run(shaft, "push 0 0"), -108);
    }

    // ---- 17: runOrders

    private static PlumbShaft ready() {
        PlumbShaft shaft = new PlumbShaft();
        shaft.hang(0, 0, 0, 1, 10);
        shaft.hang(1, 5, 0, 1, 10);
        shaft.hang(2, 0, 5, 1, 10);
        shaft.addStation(10, 0);
        shaft.addStation(11, 0);
        return shaft;
    }

    private static void upToTheFirst() {
        sentence("up to the first one whose method would return an error (if it is refused, the reason is set).");
        // a text, how many are carried out, the time then, and the reason then
        String[] texts = {"wait 3;wait 4", "wait 3;push 3 0 1;wait 4", "push 3 0 1;wait 4", "wait 4;push 3 0 1",
            "look 3 0 1;wait 1", "look 0 1 1;wait 1", "look 0 2 1;wait 1", "look 3 2 1;wait 1", "look 3 1 1;wait 1",
            "swap 1 1;wait 1", "swap 3 3;wait 1", "swap 0 3;wait 1", "swap 3 0;wait 1", "orient 0;wait 1",
            "orient 2;wait 1", "look 0 0 2;look 1 0 3;swap 0 1;wait 1", "wait 2;orient 4;push 3 0 1"};
        int[][] answers = {{2, 7, 0}, {1, 3, 1}, {0, 0, 1}, {1, 4, 1}, {0, 0, 1}, {0, 0, 2}, {0, 0, 0}, {0, 0, 0},
            {0, 0, 1}, {0, 0, 0}, {0, 0, 0}, {0, 0, 1}, {0, 0, 1}, {0, 0, 1}, {0, 0, 0}, {4, 6, 0}, {1, 2, 0}};
        for (int i = 0; i < texts.length; i++) {
            PlumbShaft shaft = ready();
            due("\"" + texts[i] + "\"", run(shaft, texts[i]), answers[i][0]);
            due("\"" + texts[i] + "\": time", shaft.count(0), answers[i][1]);
            due("\"" + texts[i] + "\": reason", shaft.count(8), answers[i][2]);
            due("\"" + texts[i] + "\": the text stays", shaft.count(10), texts[i].length());
        }
    }

    private static void reasonsOfOrient() {
        sentence("(if it is refused, the reason is set)");
        PlumbShaft shaft = ready();
        shaft.hang(3, 5, 5, 1, 10);
        due("not observed", run(shaft, "orient 0"), 0);
        due("reason", shaft.count(8), 3);
        due("observed", run(shaft, "look 0 0 1;look 1 0 1;look 2 0 1;look 3 0 1;orient 0"), 5);
        due("the reason stays", shaft.count(8), 3);
        due("orientation", shaft.station(0, 2), 0);
        shaft.hang(3, 0, 5, 1, 10);
        due("at one place", run(shaft, "look 3 0 1;orient 0;wait 1"), 1);
        due("reason", shaft.count(8), 4);
        shaft.hang(3, -5, 5, 1, 10);
        shaft.setClamp(3, 10, 0);
        due("no agreement", run(shaft, "look 3 0 1;orient 0;wait 1"), 1);
        due("reason", shaft.count(8), 5);
        due("the orientation stays", shaft.station(0, 2), 0);
        due("lowest last", run(shaft, "push 3 0 1;swap 0 1;look 3 1 1"), 2);
        due("reason", shaft.count(8), 2);
    }

    private static void oneAct() {
        sentence("This is one act, also if none is carried out.");
        String[] texts = {"wait 1", "wait 1;wait 1;wait 1", "swap 0 0", "push 3 0 1", "orient 4", "wait 1;orient 4",
            "push 0 0 9;look 0 0 1;swap 0 1"};
        for (String text : texts) {
            PlumbShaft shaft = ready();
            due("states before", shaft.count(9), 5);
            shaft.undo();
            due("states before", shaft.count(9), 4);
            shaft.keep(0);
            run(shaft, text);
            due("\"" + text + "\": states", shaft.count(9), 5);
            run(shaft, text);
            due("\"" + text + "\": states", shaft.count(9), 5);
            shaft.undo();
            shaft.undo();
            due("\"" + text + "\": states left", shaft.count(9), 3);
            due("\"" + text + "\": time", shaft.count(0), 0);
            due("\"" + text + "\": amplitude", shaft.wire(0, 8), 0);
            due("\"" + text + "\": place", shaft.wire(0, 0), 0);
            due("\"" + text + "\": observations", shaft.count(5), 0);
        }
        sentence("-100 minus the fault of the text if it has one (which is an error)");
        PlumbShaft shaft = ready();
        due("a fault", run(shaft, "wait 1;wait 1;wait"), -118);
        due("states", shaft.count(9), 5);
        due("time", shaft.count(0), 0);
        shaft = new PlumbShaft();
        due("the empty text", shaft.runOrders(), -100);
        due("states", shaft.count(9), 0);
        due("undo", shaft.undo(), NONE);
    }

    private static void actsAfterOrders() {
        sentence("Each call of a method that is described as an act records the state before it.");
        PlumbShaft shaft = new PlumbShaft();
        due("orders that are refused", run(shaft, "wait 5;swap 0 1"), 1);
        due("pass", shaft.pass(6), 11);
        due("states", shaft.count(9), 2);
        due("undo", shaft.undo(), 1);
        due("time", shaft.count(0), 5);
        due("undo", shaft.undo(), 0);
        due("time", shaft.count(0), 0);
        due("undo", shaft.undo(), NONE);
    }

    private static void greatestOrders() {
        sentence("They stand for pass(N), push(W, D, A), observe(W, S, N), swap(W, W) and orient(S).");
        PlumbShaft shaft = new PlumbShaft();
        shaft.hang(3, 1, 2, 1, 100);
        shaft.hang(2, 3, 4, 1, 100);
        for (int i = 0; i < 5; i++) {
            shaft.addStation(100, i);
        }
        due("push", run(shaft, "push 3 7 500;wait 60"), 2);
        due("direction", shaft.wire(3, 7), 7);
        due("amplitude: 475, 451, 428, 406, 385, 365, 346", shaft.wire(3, 8), 346);
        due("phase", shaft.wire(3, 9), 4);
        due("look", run(shaft, "look 3 4 60"), 1);
        due("ticks", shaft.observation(4, 3, 3), 60);
        due("time", shaft.observation(4, 3, 4), 120);
        due("least", run(shaft, "push 2 0 1;wait 1;look 2 0 1"), 3);
        due("ticks", shaft.observation(0, 2, 3), 1);
        due("time", shaft.observation(0, 2, 4), 122);
        due("swap", run(shaft, "swap 2 3"), 1);
        due("x", shaft.wire(2, 0), 1);
        due("y", shaft.wire(3, 1), 4);
        due("void", shaft.count(5), 0);
    }

    public static void main(String[] args) {
        typing();
        anyCharacter();
        ranges();
        noPart();
        digits();
        words();
        faultOfWord();
        faultOfEmptyWord();
        faultBetween();
        otherCharactersBetween();
        endsTooEarly();
        theFirstFault();
        longestText();
        afterALongerText();
        beginningsOfALongerText();
        upToTheFirst();
        reasonsOfOrient();
        oneAct();
        actsAfterOrders();
        greatestOrders();
        System.out.println(wrong == 0 ? "edges of the orders: all as due"
                : "edges of the orders: " + wrong + " answers are not as due");
        if (wrong != 0) {
            System.exit(1);
        }
    }
}

import java.util.ArrayDeque;
import java.util.ArrayList;
import java.util.Arrays;
import java.util.Deque;
import java.util.HashMap;
import java.util.List;
import java.util.Map;
import java.util.Random;
import java.util.TreeMap;

/**
 * All promises: long runs of calls, always the same ones, whose answers are compared with those of a model
 * that is written in another way (a map of names to numbers is the whole state).
 */
public final class ModelTest {
    private static final int RUNS = 600;
    private static final int MOST_CALLS = 512;
    private static final int UNKNOWN = -100001;
    private static final int BAD_VALUE = -100002;
    private static final int REFUSED = -100003;
    private static final int FULL = -100004;
    private static final int NONE = -100005;

    /** The document, read once more. */
    private static final class Model {
        private static final List<String> ACTS = List.of("hang", "lift", "setClamp", "setBucket", "push", "swap",
                "addCurrent", "clearCurrents", "addStation", "setTolerance", "pass", "observe", "orient",
                "runOrders", "restore");
        private static final Map<String, String> NUMBERS =
                Map.of("wait", "N", "push", "WDA", "look", "WSN", "swap", "WW", "orient", "S");
        private static final Map<Character, int[]> RANGES = Map.of('N', new int[] {1, 60}, 'W', new int[] {0, 3},
                'D', new int[] {0, 7}, 'A', new int[] {1, 500}, 'S', new int[] {0, 4});

        private Map<String, Long> state = new HashMap<>();
        private final Deque<Map<String, Long>> history = new ArrayDeque<>();
        private final Map<Integer, Map<String, Long>> slots = new HashMap<>();
        private String text = "";
        private int reason = 0;

        Model() {
            state.put("tolerance", 10L);
        }

        private long get(String name) {
            return state.getOrDefault(name, 0L);
        }

        private void set(String name, long value) {
            state.put(name, value);
        }

        private boolean hung(int wire) {
            return get("hung" + wire) == 1;
        }

        private static boolean outside(long value, long low, long high) {
            return value < low || value > high;
        }

        int call(String name, int... a) {
            Map<String, Long> before = new HashMap<>(state);
            int answer = answer(name, a);
            boolean error = answer == UNKNOWN || answer == BAD_VALUE || answer == REFUSED || answer == FULL
                    || answer == NONE || (name.equals("runOrders") && answer <= -100);
            if (ACTS.contains(name) && !error) {
                history.addLast(before);
                if (history.size() > 5) {
                    history.removeFirst();
                }
            }
            return answer;
        }

        private int refused(int why) {
            reason = why;
            return REFUSED;
        }

        private int answer(String name, int[] a) {
            switch (name) {
                case "hang": return hang(a);
                case "lift": return lift(a[0]);
                case "setClamp": return setClamp(a);
                case "setBucket": return setBucket(a);
                case "push": return push(a);
                case "swap": return swap(a);
                case "addCurrent": return addCurrent(a);
                case "clearCurrents": return clearCurrents();
                case "addStation": return addStation(a);
                case "setTolerance": return setTolerance(a[0]);
                case "pass": return pass(a[0]);
                case "observe": return observe(a);
                case "orient": return orient(a[0]);
                case "type":
                    if (text.length() == 70) {
                        return FULL;
                    }
                    text += (char) a[0];
                    return text.length();
                case "clearText":
                    int had = text.length();
                    text = "";
                    return had;
                case "runOrders": return runOrders();
                case "undo":
                    if (history.isEmpty()) {
                        return NONE;
                    }
                    state = history.removeLast();
                    return history.size();
                case "keep":
                    if (outside(a[0], 0, 1)) {
                        return UNKNOWN;
                    }
                    slots.put(a[0], new HashMap<>(state));
                    return (int) get("time");
                case "restore":
                    if (outside(a[0], 0, 1)) {
                        return UNKNOWN;
                    }
                    if (!slots.containsKey(a[0])) {
                        return NONE;
                    }
                    state = new HashMap<>(slots.get(a[0]));
                    return (int) get("time");
                default: return told(name, a);
            }
        }

        private int told(String name, int[] a) {
            switch (name) {
                case "wire": return wire(a);
                case "rest": return where(a, false);
                case "position": return where(a, true);
                case "calmIn": return calmIn(a);
                case "station": return station(a);
                case "observation": return observation(a);
                case "bearing":
                    if (outside(a[0], -20000, 20000) || outside(a[1], -20000, 20000) || (a[0] == 0 && a[1] == 0)) {
                        return BAD_VALUE;
                    }
                    return (int) bearing(a[0], a[1]);
                case "surface":
                    if (outside(a[0], 0, 1)) {
                        return UNKNOWN;
                    }
                    if (!hung(2 * a[0]) || !hung(2 * a[0] + 1) || surfaceSame(a[0])) {
                        return NONE;
                    }
                    return (int) surface(a[0]);
                case "given":
                    if (outside(a[0], 0, get("stations") - 1) || outside(a[1], 0, 1)) {
                        return UNKNOWN;
                    }
                    for (int why : new int[] {1, 3, 4}) {
                        if (against(a[0], a[1], why)) {
                            return NONE;
                        }
                    }
                    return (int) given(a[0], a[1]);
                case "count": return count(a[0]);
                default: throw new IllegalStateException(name);
            }
        }

        private int hungCount() {
            int n = 0;
            for (int wire = 0; wire < 4; wire++) {
                n += hung(wire) ? 1 : 0;
            }
            return n;
        }

        private int voids(int wire) {
            int n = 0;
            for (int station = 0; station < 5; station++) {
                n += state.remove("seen" + station + "." + wire) == null ? 0 : 1;
            }
            return n;
        }

        private int hang(int[] a) {
            int w = a[0];
            if (outside(w, 0, 3)) {
                return UNKNOWN;
            }
            if (Math.abs((long) a[1]) > 5000 || Math.abs((long) a[2]) > 5000 || outside(a[3], 1, 200)
                    || outside(a[4], 10, 800)) {
                return BAD_VALUE;
            }
            for (String part : List.of("ex", "ey", "bucket", "direction", "amplitude", "phase")) {
                set(part + w, 0);
            }
            set("hung" + w, 1);
            set("x" + w, a[1]);
            set("y" + w, a[2]);
            set("mass" + w, a[3]);
            set("depth" + w, a[4]);
            voids(w);
            return hungCount();
        }

        private int lift(int w) {
            if (outside(w, 0, 3)) {
                return UNKNOWN;
            }
            if (!hung(w)) {
                return refused(1);
            }
            set("hung" + w, 0);
            voids(w);
            return hungCount();
        }

        private int setClamp(int[] a) {
            if (outside(a[0], 0, 3)) {
                return UNKNOWN;
            }
            if (outside(a[1], -20, 20) || outside(a[2], -20, 20)) {
                return BAD_VALUE;
            }
            if (!hung(a[0])) {
                return refused(1);
            }
            if (get("ex" + a[0]) != a[1] || get("ey" + a[0]) != a[2]) {
                voids(a[0]);
            }
            set("ex" + a[0], a[1]);
            set("ey" + a[0], a[2]);
            return Math.abs(a[1]) + Math.abs(a[2]);
        }

        private int setBucket(int[] a) {
            if (outside(a[0], 0, 3)) {
                return UNKNOWN;
            }
            if (outside(a[1], 0, 2)) {
                return BAD_VALUE;
            }
            if (!hung(a[0])) {
                return refused(1);
            }
            int previous = (int) get("bucket" + a[0]);
            if (previous != a[1]) {
                voids(a[0]);
            }
            set("bucket" + a[0], a[1]);
            return previous;
        }

        private long q(int w) {
            return 1 + get("depth" + w) / 100;
        }

        private int push(int[] a) {
            if (outside(a[0], 0, 3)) {
                return UNKNOWN;
            }
            if (outside(a[1], 0, 7) || outside(a[2], 1, 500)) {
                return BAD_VALUE;
            }
            if (!hung(a[0])) {
                return refused(1);
            }
            set("direction" + a[0], a[1]);
            set("amplitude" + a[0], a[2]);
            set("phase" + a[0], 0);
            voids(a[0]);
            return (int) (4 * q(a[0]));
        }

        private int swap(int[] a) {
            if (outside(a[0], 0, 3) || outside(a[1], 0, 3)) {
                return UNKNOWN;
            }
            if (a[0] == a[1]) {
                return BAD_VALUE;
            }
            if (!hung(a[0]) || !hung(a[1])) {
                return refused(1);
            }
            for (String axis : List.of("x", "y")) {
                long kept = get(axis + a[0]);
                set(axis + a[0], get(axis + a[1]));
                set(axis + a[1], kept);
            }
            int n = 0;
            for (int i = 0; i < 2; i++) {
                set("amplitude" + a[i], 0);
                set("phase" + a[i], 0);
                n += voids(a[i]);
            }
            return n;
        }

        private int addCurrent(int[] a) {
            if (outside(a[0], 0, 799) || outside(a[1], (long) a[0] + 1, 800) || outside(a[2], -50, 50)
                    || outside(a[3], -50, 50)) {
                return BAD_VALUE;
            }
            long n = get("currents");
            if (n == 5) {
                return FULL;
            }
            set("a" + n, a[0]);
            set("b" + n, a[1]);
            set("fx" + n, a[2]);
            set("fy" + n, a[3]);
            set("currents", n + 1);
            for (int wire = 0; wire < 4; wire++) {
                voids(wire);
            }
            return (int) n + 1;
        }

        private int clearCurrents() {
            int n = (int) get("currents");
            if (n == 0) {
                return NONE;
            }
            set("currents", 0);
            for (int wire = 0; wire < 4; wire++) {
                voids(wire);
            }
            return n;
        }

        private int addStation(int[] a) {
            if (outside(a[0], 1, 800) || outside(a[1], 0, 7999)) {
                return BAD_VALUE;
            }
            long n = get("stations");
            if (n == 5) {
                return FULL;
            }
            set("sdepth" + n, a[0]);
            set("frame" + n, a[1]);
            set("stations", n + 1);
            return (int) n;
        }

        private int setTolerance(int tolerance) {
            if (outside(tolerance, 0, 500)) {
                return BAD_VALUE;
            }
            int previous = (int) get("tolerance");
            set("tolerance", tolerance);
            return previous;
        }

        private static long keptPart(long bucket) {
            return bucket == 0 ? 95 : bucket == 1 ? 70 : 50;
        }

        private void tick() {
            set("time", get("time") + 1);
            for (int w = 0; w < 4; w++) {
                if (hung(w)) {
                    set("phase" + w, (get("phase" + w) + 1) % (4 * q(w)));
                    if (get("phase" + w) == 0) {
                        set("amplitude" + w, get("amplitude" + w) * keptPart(get("bucket" + w)) / 100);
                    }
                }
            }
        }

        private int pass(int ticks) {
            if (outside(ticks, 1, 60)) {
                return BAD_VALUE;
            }
            for (int i = 0; i < ticks; i++) {
                tick();
            }
            return (int) get("time");
        }

        private long rest(int w, long z, String axis) {
            long sum = get(axis + w) + get("e" + axis + w);
            for (int i = 0; i < get("currents"); i++) {
                long o = Math.min(get("b" + i), z) - Math.min(get("a" + i), z);
                sum += Math.floorDiv(get("f" + axis + i) * o * z, 100 * get("mass" + w));
            }
            return sum;
        }

        private long position(int w, long z, String axis) {
            int d = (int) get("direction" + w);
            // right for 7, 0, 1, left for 3, 4, 5; up for 1, 2, 3, down for 5, 6, 7
            int turned = axis.equals("x") ? d : (d + 6) % 8;
            int component = turned == 2 || turned == 6 ? 0 : turned == 7 || turned < 2 ? 1 : -1;
            long q = q(w);
            long p = get("phase" + w);
            long off = p < q ? p : p < 3 * q ? 2 * q - p : p - 4 * q;
            long swing = get("amplitude" + w) * off / q;
            return rest(w, z, axis) + component * (swing * z / get("depth" + w));
        }

        private int observe(int[] a) {
            if (outside(a[0], 0, 3) || outside(a[1], 0, get("stations") - 1)) {
                return UNKNOWN;
            }
            if (outside(a[2], 1, 60)) {
                return BAD_VALUE;
            }
            if (!hung(a[0])) {
                return refused(1);
            }
            long z = get("sdepth" + a[1]);
            if (z > get("depth" + a[0])) {
                return refused(2);
            }
            long[] xs = new long[a[2]];
            long[] ys = new long[a[2]];
            for (int i = 0; i < a[2]; i++) {
                xs[i] = position(a[0], z, "x");
                ys[i] = position(a[0], z, "y");
                tick();
            }
            String seen = "seen" + a[1] + "." + a[0];
            set(seen, 1);
            set(seen + ".0", Math.floorDiv(Arrays.stream(xs).sum(), (long) a[2]));
            set(seen + ".1", Math.floorDiv(Arrays.stream(ys).sum(), (long) a[2]));
            Arrays.sort(xs);
            Arrays.sort(ys);
            set(seen + ".2", Math.max(xs[a[2] - 1] - xs[0], ys[a[2] - 1] - ys[0]));
            set(seen + ".3", a[2]);
            set(seen + ".4", get("time"));
            set("watched", get("watched") + a[2]);
            return (int) get(seen + ".2");
        }

        private static long bearing(long dx, long dy) {
            long m = Math.abs(dx) + Math.abs(dy);
            // a quarter turn back until the line lies in the first quarter
            long quarter = 0;
            while (!(dx > 0 && dy >= 0)) {
                long turned = dy;
                dy = -dx;
                dx = turned;
                quarter += 2000;
            }
            return quarter + 2000 * dy / m;
        }

        private boolean surfaceSame(int pair) {
            int w = 2 * pair;
            return get("x" + w) == get("x" + (w + 1)) && get("y" + w) == get("y" + (w + 1));
        }

        private long surface(int pair) {
            int w = 2 * pair;
            return bearing(get("x" + (w + 1)) - get("x" + w), get("y" + (w + 1)) - get("y" + w));
        }

        private long[] line(int station, int pair) {
            String one = "seen" + station + "." + 2 * pair;
            String two = "seen" + station + "." + (2 * pair + 1);
            return new long[] {get(two + ".0") - get(one + ".0"), get(two + ".1") - get(one + ".1")};
        }

        private boolean against(int station, int pair, int why) {
            int w = 2 * pair;
            if (why == 1) {
                return !hung(w) || !hung(w + 1);
            }
            if (why == 3) {
                return get("seen" + station + "." + w) + get("seen" + station + "." + (w + 1)) < 2;
            }
            return surfaceSame(pair) || Arrays.equals(line(station, pair), new long[] {0, 0});
        }

        private long given(int station, int pair) {
            long[] line = line(station, pair);
            long reading = (bearing(line[0], line[1]) + get("frame" + station)) % 8000;
            return (surface(pair) - reading + 8000) % 8000;
        }

        private int orient(int station) {
            if (outside(station, 0, get("stations") - 1)) {
                return UNKNOWN;
            }
            for (int why : new int[] {1, 3, 4}) {
                if (against(station, 0, why) || against(station, 1, why)) {
                    return refused(why);
                }
            }
            long r = given(station, 0);
            long difference = given(station, 1) - r;
            difference = difference >= 4000 ? difference - 8000 : difference < -4000 ? difference + 8000 : difference;
            if (Math.abs(difference) > get("tolerance")) {
                return refused(5);
            }
            set("orientation" + station, (r + 8000 + (difference >> 1)) % 8000);
            return (int) get("orientation" + station);
        }

        /** Words and numbers with what stands behind each, against the ones that are due. */
        private int faultOrOrders(List<int[]> orders, List<String> words) {
            int at = 0;
            while (true) {
                String token = tokenAt(at);
                if (!NUMBERS.containsKey(token)) {
                    return at;
                }
                at += token.length();
                String kinds = NUMBERS.get(token);
                int[] numbers = new int[kinds.length()];
                for (int i = 0; i < numbers.length; i++) {
                    if (at == text.length() || text.charAt(at) == ';') {
                        return at;
                    }
                    at++;
                    String number = tokenAt(at);
                    int[] range = RANGES.get(kinds.charAt(i));
                    if (!number.matches("[0-9]{1,3}") || outside(Integer.parseInt(number), range[0], range[1])) {
                        return at;
                    }
                    numbers[i] = Integer.parseInt(number);
                    at += number.length();
                }
                words.add(token);
                orders.add(numbers);
                if (at == text.length()) {
                    return -1;
                }
                if (text.charAt(at) == ' ') {
                    return at;
                }
                at++;
            }
        }

        private String tokenAt(int at) {
            return text.substring(at).split("[ ;]", 2)[0];
        }

        private int runOrders() {
            List<int[]> orders = new ArrayList<>();
            List<String> words = new ArrayList<>();
            int fault = faultOrOrders(orders, words);
            if (fault >= 0) {
                return -100 - fault;
            }
            for (int i = 0; i < orders.size(); i++) {
                String word = words.get(i);
                String method = word.equals("wait") ? "pass" : word.equals("look") ? "observe" : word;
                if (answer(method, orders.get(i)) < 0) {
                    return i;
                }
            }
            return orders.size();
        }

        private int wire(int[] a) {
            if (outside(a[0], 0, 3)) {
                return UNKNOWN;
            }
            if (outside(a[1], 0, 10)) {
                return BAD_VALUE;
            }
            if (!hung(a[0])) {
                return NONE;
            }
            List<String> names = List.of("x", "y", "mass", "depth", "ex", "ey", "bucket", "direction", "amplitude",
                    "phase");
            return (int) (a[1] == 10 ? 4 * q(a[0]) : get(names.get(a[1]) + a[0]));
        }

        private int where(int[] a, boolean swaying) {
            if (outside(a[0], 0, 3)) {
                return UNKNOWN;
            }
            if (outside(a[1], 0, 800) || outside(a[2], 0, 1)) {
                return BAD_VALUE;
            }
            if (!hung(a[0]) || a[1] > get("depth" + a[0])) {
                return NONE;
            }
            String axis = a[2] == 0 ? "x" : "y";
            return (int) (swaying ? position(a[0], a[1], axis) : rest(a[0], a[1], axis));
        }

        private int calmIn(int[] a) {
            if (outside(a[0], 0, 3)) {
                return UNKNOWN;
            }
            if (outside(a[1], 0, 500)) {
                return BAD_VALUE;
            }
            if (!hung(a[0])) {
                return NONE;
            }
            Map<String, Long> kept = state;
            state = new HashMap<>(kept);
            int ticks = 0;
            while (get("amplitude" + a[0]) > a[1]) {
                tick();
                ticks++;
            }
            state = kept;
            return ticks;
        }

        private int station(int[] a) {
            if (outside(a[0], 0, get("stations") - 1)) {
                return UNKNOWN;
            }
            int seen = 0;
            for (int wire = 0; wire < 4; wire++) {
                seen += get("seen" + a[0] + "." + wire);
            }
            switch (a[1]) {
                case 0: return (int) get("sdepth" + a[0]);
                case 1: return (int) get("frame" + a[0]);
                case 2: return state.getOrDefault("orientation" + a[0], (long) NONE).intValue();
                case 3: return seen;
                default: return BAD_VALUE;
            }
        }

        private int observation(int[] a) {
            if (outside(a[0], 0, get("stations") - 1) || outside(a[1], 0, 3)) {
                return UNKNOWN;
            }
            if (outside(a[2], 0, 4)) {
                return BAD_VALUE;
            }
            String seen = "seen" + a[0] + "." + a[1];
            return get(seen) == 1 ? (int) get(seen + "." + a[2]) : NONE;
        }

        private int count(int what) {
            int oriented = 0;
            int seen = 0;
            for (int station = 0; station < 5; station++) {
                oriented += state.containsKey("orientation" + station) ? 1 : 0;
                for (int wire = 0; wire < 4; wire++) {
                    seen += get("seen" + station + "." + wire);
                }
            }
            long[] counts = {get("time"), hungCount(), get("currents"), get("stations"), oriented, seen,
                get("tolerance"), get("watched"), reason, history.size(), text.length()};
            return outside(what, 0, 10) ? BAD_VALUE : (int) counts[what];
        }
    }

    private static int callShaft(PlumbShaft s, String name, int[] a) {
        switch (name) {
            case "hang": return s.hang(a[0], a[1], a[2], a[3], a[4]);
            case "lift": return s.lift(a[0]);
            case "setClamp": return s.setClamp(a[0], a[1], a[2]);
            case "setBucket": return s.setBucket(a[0], a[1]);
            case "push": return s.push(a[0], a[1], a[2]);
            case "swap": return s.swap(a[0], a[1]);
            case "addCurrent": return s.addCurrent(a[0], a[1], a[2], a[3]);
            case "clearCurrents": return s.clearCurrents();
            case "addStation": return s.addStation(a[0], a[1]);
            case "setTolerance": return s.setTolerance(a[0]);
            case "pass": return s.pass(a[0]);
            case "observe": return s.observe(a[0], a[1], a[2]);
            case "orient": return s.orient(a[0]);
            case "type": return s.type((char) a[0]);
            case "clearText": return s.clearText();
            case "runOrders": return s.runOrders();
            case "undo": return s.undo();
            case "keep": return s.keep(a[0]);
            case "restore": return s.restore(a[0]);
            case "wire": return s.wire(a[0], a[1]);
            case "rest": return s.rest(a[0], a[1], a[2]);
            case "position": return s.position(a[0], a[1], a[2]);
            case "calmIn": return s.calmIn(a[0], a[1]);
            case "station": return s.station(a[0], a[1]);
            case "observation": return s.observation(a[0], a[1], a[2]);
            case "bearing": return s.bearing(a[0], a[1]);
            case "surface": return s.surface(a[0]);
            case "given": return s.given(a[0], a[1]);
            case "count": return s.count(a[0]);
            default: throw new IllegalStateException(name);
        }
    }

    /** One run: a shaft and its model, that get the same calls. */
    private static final class Run {
        private final Random random;
        private final boolean wild;
        private final PlumbShaft shaft = new PlumbShaft();
        private final Model model = new Model();
        private final List<String> calls = new ArrayList<>();
        private final Map<String, Integer> answered;
        private int lastX = 0;
        private int lastY = 0;
        private boolean wrong = false;

        Run(int seed, Map<String, Integer> answered) {
            random = new Random(seed);
            wild = seed % 3 == 0;
            this.answered = answered;
        }

        private boolean isOver() {
            return wrong || calls.size() >= MOST_CALLS;
        }

        private int call(String name, int... a) {
            if (isOver()) {
                return 0;
            }
            int want = model.call(name, a);
            int got = callShaft(shaft, name, a);
            calls.add(name + Arrays.toString(a) + " = " + want);
            answered.merge(name + ": " + kindOf(name, want), 1, Integer::sum);
            if (got != want) {
                wrong = true;
                System.out.println(String.join("\n", calls));
                System.out.println("the last one answered " + got);
            }
            return want;
        }

        private String kindOf(String name, int answer) {
            if (name.equals("runOrders") && answer <= -100) {
                return "fault";
            }
            if (answer == REFUSED) {
                return "reason " + model.reason;
            }
            return answer <= UNKNOWN && answer >= NONE ? "" + answer : "fine";
        }

        private int from(int low, int high) {
            int dice = random.nextInt(wild ? 12 : 80);
            if (dice == 0) {
                return low - 1;
            }
            if (dice == 1) {
                return high + 1;
            }
            if (dice == 2) {
                return random.nextBoolean() ? low : high;
            }
            if (dice == 3) {
                return random.nextInt(8) == 0 ? random.nextInt() : low;
            }
            return low + random.nextInt(high - low + 1);
        }

        private int place() {
            int near = random.nextInt(3);
            return random.nextInt(3) == 0 ? from(-5000, 5000) : near == 0 ? from(0, 1) : from(-9, 9) * 500;
        }

        private int depth(int low) {
            return random.nextInt(3) == 0 ? from(low, 800) : random.nextBoolean() ? from(low, 60) : 800;
        }

        /** Often at the place of the wire before, as its pair is refused then. */
        private void hang(int wire) {
            if (random.nextInt(5) != 0) {
                lastX = place();
                lastY = random.nextInt(9) == 0 ? lastY : place();
            }
            call("hang", wire, lastX, lastY, random.nextBoolean() ? from(100, 200) : from(1, 200), depth(10));
        }

        private void observeAll() {
            int station = from(0, 4) % 5;
            for (int wire = 0; wire < 4; wire++) {
                call("observe", wire, station, from(1, random.nextBoolean() ? 5 : 60));
            }
            call("orient", station);
            call("given", station, from(0, 1));
        }

        private String number(int low, int high) {
            int number = from(low, high);
            switch (random.nextInt(wild ? 12 : 60)) {
                case 0: return "0" + number;
                case 1: return "00" + number;
                case 2: return "";
                case 3: return number + "x";
                default: return "" + number;
            }
        }

        private String order() {
            switch (random.nextInt(6)) {
                case 0: return "wait " + number(1, 60);
                case 1: return "push " + number(0, 3) + " " + number(0, 7) + " " + number(1, 500);
                case 2: return "swap " + number(0, 3) + " " + number(0, 3);
                case 3: return "orient " + number(0, 4);
                default: return "look " + number(0, 3) + " " + number(0, 4) + " " + number(1, 60);
            }
        }

        private void orders() {
            StringBuilder text = new StringBuilder(order());
            while (random.nextInt(5) != 0 && text.length() < 60) {
                text.append(';').append(order());
            }
            if (random.nextInt(3) == 0) {
                int at = random.nextInt(text.length());
                String other = " ;0159waitpushlokretn" + (char) 1634;
                switch (random.nextInt(3)) {
                    case 0: text.deleteCharAt(at); break;
                    case 1: text.insert(at, other.charAt(random.nextInt(other.length()))); break;
                    default: text.setCharAt(at, other.charAt(random.nextInt(other.length())));
                }
            }
            call("clearText");
            for (int i = 0; i < text.length(); i++) {
                call("type", text.charAt(i));
                if (random.nextInt(40) == 0) {
                    call("runOrders");
                }
            }
            call("runOrders");
        }

        private void act() {
            switch (random.nextInt(22)) {
                case 0: hang(from(0, 3)); break;
                case 1:
                    if (wild || random.nextInt(6) == 0) {
                        call("lift", from(0, 3));
                    }
                    break;
                case 2: call("setClamp", from(0, 3), from(-20, 20), from(-20, 20)); break;
                case 3: call("setClamp", from(0, 3), from(-1, 1), from(0, 1)); break;
                case 4: call("setBucket", from(0, 3), from(0, 2)); break;
                case 5: case 6: call("push", from(0, 3), from(0, 7), from(1, 500)); break;
                case 7: call("swap", from(0, 3), from(0, 3)); break;
                case 8: addCurrent(); break;
                case 9:
                    if (random.nextInt(3) == 0) {
                        call("clearCurrents");
                    }
                    break;
                case 10: call("addStation", depth(1), from(0, 7999)); break;
                case 11: call("setTolerance", random.nextBoolean() ? from(0, 500) : from(0, 30)); break;
                case 12: case 13: call("pass", random.nextBoolean() ? from(1, 6) : from(1, 60)); break;
                case 14: case 15: call("observe", from(0, 3), from(0, 4), from(1, 60)); break;
                case 16: observeAll(); break;
                case 17: call("orient", from(0, 4)); break;
                case 18: call("undo"); break;
                case 19: call("keep", from(0, 1)); break;
                case 20: call("restore", from(0, 1)); break;
                default:
                    if (random.nextInt(4) == 0) {
                        orders();
                    }
            }
        }

        private void addCurrent() {
            int a = from(0, 799);
            call("addCurrent", a, Math.max(a, 0) < 799 ? from(Math.max(a, 0) + 1, 800) : 800, from(-50, 50),
                    from(-50, 50));
        }

        private void tell() {
            switch (random.nextInt(10)) {
                case 0: call("wire", from(0, 3), from(0, 10)); break;
                case 1: call("rest", from(0, 3), depth(0), from(0, 1)); break;
                case 2: call("position", from(0, 3), depth(0), from(0, 1)); break;
                case 3: call("calmIn", from(0, 3), from(0, random.nextBoolean() ? 20 : 500)); break;
                case 4: call("station", from(0, 4), from(0, 3)); break;
                case 5: call("observation", from(0, 4), from(0, 3), from(0, 4)); break;
                case 6: call("bearing", random.nextBoolean() ? place() : from(-20000, 20000), place()); break;
                case 7: call("surface", from(0, 1)); break;
                case 8: call("given", from(0, 4), from(0, 1)); break;
                default: call("count", from(0, 10));
            }
        }

        private void start() {
            if (random.nextInt(4) == 0) {
                return;
            }
            for (int wire = 0; wire < 4; wire++) {
                hang(wire);
                if (random.nextBoolean()) {
                    call("setBucket", wire, from(0, 2));
                }
            }
            for (int i = random.nextInt(5); i >= 0; i--) {
                call("addStation", from(1, 40), from(0, 7999));
            }
        }

        boolean isRight() {
            start();
            while (!isOver()) {
                act();
                tell();
                tell();
            }
            return !wrong;
        }
    }

    public static void main(String[] args) {
        // with any argument, it tells which kinds of answers the runs reach
        Map<String, Integer> answered = new TreeMap<>();
        int wrong = 0;
        for (int seed = 0; seed < RUNS && wrong < 3; seed++) {
            if (!new Run(seed, answered).isRight()) {
                wrong++;
                System.out.println("run " + seed);
            }
        }
        if (args.length > 0) {
            System.out.println(answered);
        }
        System.out.println(wrong == 0 ? "model: all as due" : "model: " + wrong + " runs are not as due");
        if (wrong != 0) {
            System.exit(1);
        }
    }
}

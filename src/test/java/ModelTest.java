import java.lang.reflect.Method;
import java.util.ArrayList;
import java.util.Arrays;
import java.util.List;
import java.util.Random;
import java.util.TreeMap;

/** Long runs by lot on the class and on the Model, which must answer every call alike. */
public final class ModelTest {
    private static final int CALLS = 512;
    private static final int[] EDGES = {-1000000005, Integer.MIN_VALUE, Integer.MAX_VALUE, -1, 0, 1, 100000, -100000, 99999, -99999, 32768, 65535};
    private static final String[] CALLED = {
        "wreck", "told", "as", "turns", "set", "sweep", "drag", "at", "deal", "seed", "hours", "sky", "behind", "first",
        "hole", "open", "best", "push", "under", "nearest", "seen", "fee", "fine", "feed", "trim", "text", "textTold", "why",
        "sheet", "mark", "pour", "reads", "copy", "lay", "ask", "item", "rest", "tell", "check", "keep", "back", "count"};

    private final Random lot;
    private final WreckSky real = new WreckSky();
    private final Model model = new Model();
    private final List<String> log = new ArrayList<>();
    private static final TreeMap<String, Method> REAL = methods(WreckSky.class);
    private static final TreeMap<String, Method> MODEL = methods(Model.class);
    private int calls = 0;

    private ModelTest(long seed) {
        lot = new Random(seed);
    }

    private static TreeMap<String, Method> methods(Class<?> of) {
        TreeMap<String, Method> found = new TreeMap<>();
        for (Method m : of.getDeclaredMethods()) {
            if (java.lang.reflect.Modifier.isPublic(m.getModifiers())) {
                found.put(m.getName(), m);
                m.setAccessible(true);
            }
        }
        return found;
    }

    public static void main(String[] args) throws Exception {
        int runs = args.length > 0 ? Integer.parseInt(args[0]) : 300;
        int wrong = 0;
        for (int seed = 1; seed <= runs && wrong < 3; seed++) {
            String fault = new ModelTest(seed).run(seed % 6);
            if (fault != null) {
                wrong++;
                System.out.println("run " + seed + ": " + fault);
            }
        }
        System.out.println(wrong == 0 ? runs + " runs are as the model's" : "the class is not as the model");
        if (wrong != 0) System.exit(1);
    }

    private String run(int manner) throws Exception {
        String fault = null;
        if (manner > 0) {
            call("seed", lot.nextInt());
            call("deal", manner == 5 ? 14 : 1 + lot.nextInt(14));
            call("drag", manner == 1 ? 0 : lot.nextInt(101));
        }
        if (manner == 4) fault = late();
        if (manner == 5) fault = full();
        while (calls < CALLS && fault == null) {
            int which = lot.nextInt(100);
            if (which < 6) {
                fault = feedText();
            } else if (which < 10) {
                fault = tellHours();
            } else if (which < 16 && manner == 3) {
                fault = crowd();
            } else if (which < 22) {
                fault = wild();
            } else {
                fault = any();
            }
        }
        return fault == null ? everything() : fault;
    }

    /** THE HOUR is near 9999, so that the bound is met soon. */
    private String late() throws Exception {
        String fault = null;
        while (model.s.hour < 9900 && fault == null) {
            fault = call("hours", 100);
        }
        return fault == null ? call("hours", 60 + lot.nextInt(40)) : fault;
    }

    /** All that has a bound is full, or one short of it. */
    private String full() throws Exception {
        String fault = null;
        for (int i = lot.nextInt(2); i < 14 && fault == null; i++) {
            fault = feedText();
        }
        for (int i = lot.nextInt(3); i < 60 && fault == null; i++) {
            fault = call("tell", value());
        }
        for (int sheet = 0; sheet < 4 && fault == null; sheet++) {
            fault = call("sheet", sheet, lot.nextInt(2), 24 - lot.nextInt(2));
        }
        return fault;
    }

    /** null, if both answer alike. */
    private String call(String name, int... args) throws Exception {
        Object[] boxed = Arrays.stream(args).boxed().toArray();
        Object a = REAL.get(name).invoke(real, boxed);
        Object b = MODEL.get(name).invoke(model, boxed);
        calls++;
        String told = name + Arrays.toString(args);
        log.add(told + " = " + a);
        if (a.equals(b)) return null;
        int from = Math.max(0, log.size() - 40);
        return told + " answered " + a + ", due is " + b + "\n  behind " + String.join("\n  ", log.subList(from, log.size()));
    }

    private int small(int n) {
        int r = lot.nextInt(30);
        return r == 0 ? -1 : r == 1 ? n : r == 2 ? EDGES[lot.nextInt(EDGES.length)] : lot.nextInt(n);
    }

    private int wreckNumber() {
        return small(Math.max(1, model.s.pieces.size()));
    }

    private int value() {
        return switch (lot.nextInt(6)) {
            case 0 -> EDGES[lot.nextInt(EDGES.length)];
            case 1 -> lot.nextInt(400) - 200;
            case 2 -> lot.nextInt();
            default -> lot.nextInt(30);
        };
    }

    private String any() throws Exception {
        String name = CALLED[lot.nextInt(CALLED.length)];
        return switch (name) {
            case "wreck" -> call(name, small(6), small(8), small(30), small(19) - 9, small(99) + 1);
            case "told" -> call(name, wreckNumber(), small(9));
            case "as", "turns" -> call(name, wreckNumber(), small(6));
            case "set" -> setCall();
            case "sweep", "fine" -> call(name, wreckNumber());
            case "drag" -> call(name, small(101));
            case "at" -> atCall();
            case "deal" -> call(name, lot.nextInt(3) == 0 ? small(15) : 1);
            case "seed", "tell" -> call(name, value());
            case "hours" -> call(name, lot.nextInt(8) == 0 ? small(101) : 1 + small(6));
            case "sky" -> call(name, small(6));
            case "behind" -> call(name, small(101), small(3 + model.s.pieces.size()));
            case "hole" -> call(name, small(30));
            case "open" -> call(name, lot.nextInt(2) == 0 ? small(61) : small(4));
            case "best" -> call(name, small(61), small(2));
            case "push" -> call(name, wreckNumber(), small(61), small(2));
            case "under" -> call(name, small(101), small(2));
            case "nearest" -> call(name, wreckNumber(), lot.nextInt(2) == 0 ? small(101) : small(3));
            case "seen" -> call(name, small(4), small(2));
            case "feed" -> call(name, lot.nextInt(), lot.nextInt(), lot.nextInt());
            case "trim" -> call(name, small(model.tape.length() + 1));
            case "textTold" -> call(name, small(model.s.laws.size() + 1), small(2));
            case "why" -> call(name, small(3));
            case "sheet" -> call(name, small(4), lot.nextInt(12) == 0 ? -1 : small(2), small(25));
            case "mark" -> markCall();
            case "pour", "reads" -> call(name, small(4));
            case "copy" -> call(name, small(4), small(9), small(4), small(9), small(9));
            case "lay" -> layCall();
            case "ask" -> call(name, small(5), small(6));
            case "item" -> call(name, small(5), small(12));
            case "rest" -> call(name, small(5), value());
            case "check" -> call(name, small(31));
            case "back" -> lot.nextInt(4) == 0 ? call(name) : null;
            case "count" -> call(name, small(8));
            default -> call(name);
        };
    }

    /** Any call with any numbers, mostly far outside what it takes. */
    private String wild() throws Exception {
        String name = CALLED[lot.nextInt(CALLED.length)];
        int[] args = new int[REAL.get(name).getParameterCount()];
        for (int i = 0; i < args.length; i++) {
            args[i] = lot.nextInt(3) == 0 ? lot.nextInt(3) : value();
        }
        return call(name, args);
    }

    private String setCall() throws Exception {
        int what = small(7);
        int v = switch (what) {
            case 1 -> small(8);
            case 2 -> small(30);
            case 3 -> small(19) - 9;
            case 4 -> small(100);
            default -> small(2);
        };
        return call("set", wreckNumber(), what, v);
    }

    private String atCall() throws Exception {
        if (model.s.pieces.isEmpty() || lot.nextInt(3) == 0) return call("at", small(8), small(30));
        Model.Piece p = model.s.pieces.get(lot.nextInt(model.s.pieces.size()));
        return call("at", p.height(), p.place());
    }

    /** Now and then a whole SHEET is filled with PLACES as they are, so that reads finds none. */
    private String markCall() throws Exception {
        int sheet = small(4);
        if (lot.nextInt(5) > 0 || sheet < 0 || sheet > 3) return call("mark", sheet, small(25), value());
        String fault = call("sheet", sheet, lot.nextInt(2), model.s.pieces.size());
        for (int i = 0; i < model.s.pieces.size() && fault == null; i++) {
            fault = call("mark", sheet, i, model.s.pieces.get(i).place() + (lot.nextInt(15) == 0 ? 1 : 0));
        }
        return fault == null ? call("reads", sheet) : fault;
    }

    private String layCall() throws Exception {
        int thing = small(4);
        int k = thing == 1 ? wreckNumber() : thing == 2 ? small(4) : value();
        return call("lay", small(5), thing, k);
    }

    /** Many at one HEIGHT, which meet soon and often. */
    private String crowd() throws Exception {
        String fault = null;
        int height = lot.nextInt(8);
        for (int i = 0; i < model.s.pieces.size() && fault == null; i++) {
            if (lot.nextInt(3) > 0) fault = call("set", i, 1, height);
            if (fault == null && lot.nextInt(3) > 0) fault = call("set", i, 5, 1);
            if (fault == null && lot.nextInt(3) > 0) fault = call("set", i, 4, 1 + lot.nextInt(99));
        }
        return fault == null ? call("hours", 1 + lot.nextInt(3)) : fault;
    }

    /** The HOURS TOLD, now and then with one that is wrong, missing, or one too many. */
    private String tellHours() throws Exception {
        String fault = call("check", 1);
        if (model.image == null || lot.nextInt(4) == 0) {
            call("keep");
        }
        int n = 1 + lot.nextInt(5);
        Model.State t = model.image.another();
        for (int i = 0; i < n && fault == null; i++) {
            t.hour();
            int sum = t.pieces.stream().filter(Model.Piece::up).mapToInt(Model.Piece::place).sum();
            fault = call("tell", t.broken + (lot.nextInt(20) == 0 ? 1 : 0));
            if (fault == null && lot.nextInt(20) > 0) fault = call("tell", sum + (lot.nextInt(20) == 0 ? 1 : 0));
        }
        if (fault == null && lot.nextInt(6) == 0) fault = call("tell", lot.nextInt(3));
        return fault == null ? call("check", n) : fault;
    }

    private String feedText() throws Exception {
        String t = textByLot();
        String fault = call("trim", 0);
        for (int i = 0; i < t.length() && fault == null; i += 12) {
            int[] v = new int[3];
            for (int j = 0; j < 12; j++) {
                v[j / 4] = v[j / 4] << 8 | (i + j < t.length() ? t.charAt(i + j) : 32);
            }
            fault = call("feed", v);
        }
        if (fault == null) fault = call("trim", t.length());
        return fault == null ? call("text") : fault;
    }

    private String textByLot() {
        String[] keys = {"hard", "fee", "fine"};
        String[] names = {"mhp", "bu", "mp"};
        int key = lot.nextInt(3);
        int sort = lot.nextInt(12);
        StringBuilder t = new StringBuilder(blanks() + keys[key]);
        if (sort == 0) {
            t.append(lot.nextBoolean() ? " " : "").append("!(".repeat(lot.nextInt(11))).append("m");
        } else if (sort == 1) {
            int a = lot.nextInt(10), b = lot.nextInt(10);
            t.append("(".repeat(a)).append("!".repeat(b)).append(names[key].charAt(0)).append(")".repeat(a));
        } else {
            t.append(lot.nextInt(20) == 0 ? "" : " ").append(expression(names[key], lot.nextInt(5)));
        }
        t.append(blanks());
        if (lot.nextInt(3) == 0) {
            String bytes = "mhpbu0123456789()!+-*/<=>&| hardfefin@A#" + (char) 0 + (char) 255 + (char) 9;
            int at = lot.nextInt(t.length() + 1);
            char c = bytes.charAt(lot.nextInt(bytes.length()));
            switch (lot.nextInt(3)) {
                case 0 -> t.insert(at, c);
                case 1 -> t.setLength(at);
                default -> t.setCharAt(Math.min(at, t.length() - 1), c);
            }
        }
        t.setLength(Math.min(t.length(), 96));
        return t.toString();
    }

    private String blanks() {
        return " ".repeat(Math.max(0, lot.nextInt(6) - 3));
    }

    private String expression(String names, int depth) {
        String gap = blanks();
        if (depth <= 0) {
            return lot.nextInt(2) == 0 ? "" + names.charAt(lot.nextInt(names.length())) : "" + lot.nextInt(lot.nextInt(3) == 0 ? 12000 : 12);
        }
        return switch (lot.nextInt(7)) {
            case 0 -> "!" + gap + expression(names, 0);
            case 1, 2 -> "(" + gap + expression(names, depth - 1) + ")";
            default -> expression(names, depth - 1) + gap + "|&<=>+-*/".charAt(lot.nextInt(9)) + blanks() + expression(names, depth - 1 - lot.nextInt(2));
        };
    }

    /** All that can be told without a change, at the end of a run. */
    private String everything() throws Exception {
        String fault = null;
        for (int what = -1; what <= 8 && fault == null; what++) {
            fault = call("count", what);
            if (fault == null) fault = call("sky", what);
            for (int i = -1; i <= 14 && fault == null; i++) {
                fault = call("told", i, what);
            }
        }
        for (int n = -1; n <= 30 && fault == null; n++) {
            fault = call("hole", n);
        }
        return fault;
    }
}

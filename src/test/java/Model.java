import java.util.ArrayList;
import java.util.Arrays;
import java.util.List;

/**
 * The document once more, written as slowly and as near to its words as it goes, and in other ways than the class:
 * every state is a fresh copy, every forecast is thought anew for each question. ModelTest holds the two together.
 */
final class Model {
    static final int BAD = -1000000001, NO = -1000000002, FULL = -1000000003, NONE = -1000000005;
    static final int NOTHING = -1000000011, KIND = -1000000012, INDEX = -1000000013, SIZE = -1000000014;

    /** One WRECK, never changed: a change makes another one. */
    record Piece(int kind, int height, int place, int pace, int mass, boolean up) {
        Piece kind(int v) { return new Piece(v, height, place, pace, mass, up); }
        Piece height(int v) { return new Piece(kind, v, place, pace, mass, up); }
        Piece place(int v) { return new Piece(kind, height, v, pace, mass, up); }
        Piece pace(int v) { return new Piece(kind, height, place, v, mass, up); }
        Piece mass(int v) { return new Piece(kind, height, place, pace, v, up); }
        Piece up(boolean v) { return new Piece(kind, height, place, pace, mass, v); }

        boolean is(int k) {
            return switch (k) {
                case 0 -> true;
                case 1 -> kind == 1 || kind == 3;
                case 2 -> kind == 2 || kind == 4;
                default -> kind == k;
            };
        }

        int goes(int as, int hour) {
            return switch (as) {
                case 0 -> pace;
                case 1 -> goes(0, hour);
                case 2 -> goes(0, hour) + 1;
                case 3 -> Math.abs(hour) % 2 == 1 ? 0 : goes(1, hour);
                case 4 -> -goes(2, hour);
                default -> goes(0, hour) == 0 ? 1 : goes(0, hour);
            };
        }

        int worth(int as) {
            return switch (as) {
                case 0 -> mass;
                case 1 -> worth(0) + 9;
                case 2 -> 99 - mass;
                case 3 -> worth(1) * 2;
                case 4 -> worth(2) - 5;
                default -> 2;
            };
        }
    }

    /** What an IMAGE keeps. */
    static final class State {
        List<Piece> pieces = new ArrayList<>();
        List<Law> laws = new ArrayList<>();
        int drag, broken, burnt, swept, hour, z = 1;

        State another() {
            State s = new State();
            s.pieces = new ArrayList<>(pieces);
            s.laws = new ArrayList<>(laws);
            s.drag = drag;
            s.broken = broken;
            s.burnt = burnt;
            s.swept = swept;
            s.hour = hour;
            s.z = z;
            return s;
        }

        Law law(String key) {
            Law last = null;
            for (Law l : laws) {
                if (l.key.equals(key)) {
                    last = l;
                }
            }
            return last;
        }

        int hard(Piece p, int as) {
            switch (as) {
                case 0:
                    Law l = law("hard");
                    int v = l == null ? p.mass : l.value("m", p.mass, "h", p.height, "p", p.pace);
                    return v < 0 ? 0 : v > 999 ? 999 : v;
                case 1: return hard(p, 0) + 10;
                case 2: return hard(p, 0) < 9 ? 0 : hard(p, 0) - 9;
                case 3: return hard(p, 1) / 2;
                case 4: return 0;
                default: return hard(p, 0) * 2;
            }
        }

        int draw() {
            z = (int) (z * 1103515245L + 12345L);
            return (int) ((z & 0xffffffffL) / 256);
        }

        void hour() {
            for (int i = 0; i < pieces.size(); i++) {
                Piece p = pieces.get(i);
                if (p.up) {
                    pieces.set(i, p.place((p.place + p.goes(p.kind, hour) + 300) % 30));
                }
            }
            int n = pieces.size();
            for (int i = 0; i < n; i++) {
                for (int j = i + 1; j < n; j++) {
                    Piece a = pieces.get(i);
                    Piece b = pieces.get(j);
                    if (a.up && b.up && a.height * 30 + a.place == b.height * 30 + b.place) {
                        int less = hard(a, a.kind) < hard(b, b.kind) ? i : j;
                        broken++;
                        Piece p = pieces.get(less);
                        if (p.mass == 1) {
                            pieces.set(less, p.up(false));
                        } else {
                            pieces.set(less, p.mass(p.mass / 2));
                            if (pieces.size() < 14) {
                                pieces.add(new Piece(2, p.height, p.place, p.pace == 9 ? 9 : p.pace + 1, p.mass - p.mass / 2, true));
                            }
                        }
                    }
                }
            }
            boolean sinks = draw() % 100 < drag;
            if (sinks && !pieces.isEmpty()) {
                int which = draw() % pieces.size();
                Piece p = pieces.get(which);
                if (p.up && p.height == 0) {
                    pieces.set(which, p.up(false));
                    burnt++;
                } else if (p.up) {
                    pieces.set(which, p.height(p.height - 1));
                }
            }
            hour++;
        }

        State behind(int n) {
            State s = another();
            for (int i = 0; i < n; i++) {
                s.hour();
            }
            return s;
        }

        int ups() {
            return (int) pieces.stream().filter(Piece::up).count();
        }
    }

    /** A TEXT, as its words and signs; its value is found by splitting it at its loosest sign. */
    static final class Law {
        final String key;
        final List<String> parts;

        Law(String key, List<String> parts) {
            this.key = key;
            this.parts = parts;
        }

        int value(Object... names) {
            return value(parts, names);
        }

        private static int value(List<String> e, Object[] names) {
            for (String signs : new String[] {"|", "&", "<=>", "+-", "*/"}) {
                int depth = 0;
                for (int i = e.size() - 1; i >= 0; i--) {
                    String t = e.get(i);
                    depth += t.equals(")") ? 1 : t.equals("(") ? -1 : 0;
                    if (depth == 0 && signs.contains(t)) {
                        int a = value(e.subList(0, i), names);
                        int b = value(e.subList(i + 1, e.size()), names);
                        return join(t, a, b);
                    }
                }
            }
            if (e.get(0).equals("!")) {
                return value(e.subList(1, e.size()), names) == 0 ? 1 : 0;
            }
            if (e.get(0).equals("(")) {
                return value(e.subList(1, e.size() - 1), names);
            }
            for (int i = 0; i < names.length; i += 2) {
                if (e.get(0).equals(names[i])) {
                    return (Integer) names[i + 1];
                }
            }
            return Integer.parseInt(e.get(0));
        }

        private static int join(String sign, int a, int b) {
            boolean is;
            switch (sign) {
                case "+": return a + b;
                case "-": return a - b;
                case "*": return a * b;
                case "/": return b == 0 ? 0 : (int) ((long) a / b);
                case "|": is = a != 0 | b != 0; break;
                case "&": is = a != 0 & b != 0; break;
                case "<": is = a < b; break;
                case "=": is = a == b; break;
                default: is = a > b; break;
            }
            return is ? 1 : 0;
        }
    }

    static final class Row {
        boolean floats;
        /** null: NO NUMBER. */
        Integer[] cells;

        Row(boolean floats, int n) {
            this.floats = floats;
            cells = new Integer[n];
            Arrays.fill(cells, 0);
        }

        Row another() {
            Row r = new Row(floats, 0);
            r.cells = cells.clone();
            return r;
        }
    }

    State s = new State();
    State image;
    StringBuilder tape = new StringBuilder();
    Row[] rows = new Row[4];
    Object[] slots = new Object[5];
    List<Integer> waiting = new ArrayList<>();

    private boolean piece(int i) {
        return i >= 0 && i < s.pieces.size();
    }

    private static boolean in(int v, int a, int b) {
        return a <= v && v <= b;
    }

    public int wreck(int kind, int height, int place, int pace, int mass) {
        if (!(in(kind, 0, 5) && in(height, 0, 7) && in(place, 0, 29) && in(pace, -9, 9) && in(mass, 1, 99))) return BAD;
        if (s.pieces.size() == 14) return FULL;
        s.pieces.add(new Piece(kind, height, place, pace, mass, true));
        return s.pieces.size() - 1;
    }

    public int told(int wreck, int what) {
        if (!piece(wreck) || !in(what, 0, 8)) return BAD;
        Piece p = s.pieces.get(wreck);
        return new int[] {p.kind, p.height, p.place, p.pace, p.mass, p.up ? 1 : 0, s.hard(p, p.kind), p.goes(p.kind, s.hour), p.worth(p.kind)}[what];
    }

    public int as(int wreck, int kind) {
        if (!piece(wreck) || !in(kind, 0, 5)) return BAD;
        return s.pieces.get(wreck).is(kind) ? s.pieces.get(wreck).mass : KIND;
    }

    public int turns(int wreck, int kind) {
        if (!piece(wreck) || !in(kind, 0, 5)) return BAD;
        return s.pieces.set(wreck, s.pieces.get(wreck).kind(kind)).kind;
    }

    public int set(int wreck, int what, int v) {
        if (!piece(wreck)) return BAD;
        Piece p = s.pieces.get(wreck);
        int was = told(wreck, what);
        Piece q = null;
        if (what == 1 && in(v, 0, 7)) q = p.height(v);
        if (what == 2 && in(v, 0, 29)) q = p.place(v);
        if (what == 3 && in(v, -9, 9)) q = p.pace(v);
        if (what == 4 && in(v, 1, 99)) q = p.mass(v);
        if (what == 5 && in(v, 0, 1)) q = p.up(v == 1);
        if (q == null) return BAD;
        s.pieces.set(wreck, q);
        return was;
    }

    public int sweep(int wreck) {
        if (!piece(wreck)) return BAD;
        Piece p = s.pieces.get(wreck);
        if (!p.up) return NO;
        s.pieces.set(wreck, p.up(false));
        s.swept++;
        return p.mass;
    }

    public int drag(int v) {
        if (!in(v, 0, 100)) return BAD;
        int was = s.drag;
        s.drag = v;
        return was;
    }

    public int at(int height, int place) {
        if (!in(height, 0, 7) || !in(place, 0, 29)) return BAD;
        int set = 0;
        for (int i = 0; i < s.pieces.size(); i++) {
            Piece p = s.pieces.get(i);
            if (p.up && p.height == height && p.place == place) set += 1 << i;
        }
        return set;
    }

    public int deal(int n) {
        if (!in(n, 1, 14)) return BAD;
        int came = 0;
        while (came < n && s.pieces.size() < 14) {
            int[] d = new int[5];
            for (int i = 0; i < 5; i++) d[i] = s.draw();
            s.pieces.add(new Piece(d[0] % 6, d[1] % 8, d[2] % 30, d[3] % 19 - 9, d[4] % 30 + 1, true));
            came++;
        }
        return came;
    }

    public int seed(int v) {
        int was = s.z;
        s.z = v;
        return was;
    }

    public int hours(int n) {
        if (!in(n, 1, 100)) return BAD;
        int was = s.broken;
        for (int i = 0; i < n; i++) {
            if (s.hour < 9999) s.hour();
        }
        return s.broken - was;
    }

    public int sky(int what) {
        int ups = 0, mass = 0, heights = 0;
        for (int i = 0; i < s.pieces.size(); i++) {
            Piece p = s.pieces.get(i);
            if (p.up) {
                ups |= 1 << i;
                mass += p.mass;
                heights |= 1 << p.height;
            }
        }
        return in(what, 0, 5) ? new int[] {s.broken, s.burnt, s.swept, ups, mass, heights}[what] : BAD;
    }

    public int behind(int n, int what) {
        if (!in(n, 0, 100) || !in(what, 0, 2) && !piece(what - 3)) return BAD;
        State t = s.behind(n);
        return what == 0 ? t.broken : what == 1 ? t.burnt : what == 2 ? t.ups() : t.pieces.get(what - 3).place;
    }

    public int first() {
        State t = s.another();
        for (int i = 1; i <= 200; i++) {
            t.hour();
            if (t.broken != s.broken) return i;
        }
        return NONE;
    }

    private List<State> ahead(int n) {
        List<State> all = new ArrayList<>();
        State t = s.another();
        for (int i = 0; i <= n; i++) {
            all.add(t);
            t = t.behind(1);
        }
        return all;
    }

    private int hole(List<State> ahead, int place) {
        for (int k = 0; k <= 60; k++) {
            boolean meets = false;
            for (int h = 0; h <= 7; h++) {
                for (Piece p : ahead.get(k + h).pieces) {
                    meets |= p.up && p.height == h && p.place == place;
                }
            }
            if (!meets) return k;
        }
        return NONE;
    }

    public int hole(int place) {
        return in(place, 0, 29) ? hole(ahead(67), place) : BAD;
    }

    public int open(int n) {
        if (!in(n, 0, 60)) return BAD;
        List<State> ahead = ahead(67);
        int many = 0;
        for (int place = 0; place < 30; place++) {
            if (hole(ahead, place) == n) many++;
        }
        return many;
    }

    public int best(int n, int what) {
        if (!in(n, 1, 60) || !in(what, 0, 1)) return BAD;
        int[] least = {NONE, NONE};
        for (int i = s.pieces.size() - 1; i >= 0; i--) {
            State t = s.another();
            if (t.pieces.get(i).up) {
                t.pieces.set(i, t.pieces.get(i).up(false));
                int broken = t.behind(n).broken;
                if (least[0] == NONE || broken <= least[1]) least = new int[] {i, broken};
            }
        }
        return least[what];
    }

    public int push(int wreck, int n, int what) {
        if (!piece(wreck) || !in(n, 1, 60) || !in(what, 0, 1)) return BAD;
        int[] least = {NONE, Integer.MAX_VALUE};
        for (int pace = 9; pace >= -9; pace--) {
            State t = s.another();
            t.pieces.set(wreck, t.pieces.get(wreck).pace(pace));
            int broken = t.behind(n).broken;
            if (broken <= least[1]) least = new int[] {pace, broken};
        }
        return least[what];
    }

    public int under(int n, int what) {
        if (!in(n, 1, 100) || !in(what, 0, 1)) return BAD;
        List<State> ahead = ahead(n);
        int[] most = {0, 0};
        for (int place = 0; place < 30; place++) {
            int hours = 0;
            for (int t = 1; t <= n; t++) {
                int here = place;
                if (ahead.get(t).pieces.stream().anyMatch(p -> p.up && p.place == here)) hours++;
            }
            if (hours > most[1]) most = new int[] {place, hours};
        }
        return most[what];
    }

    private static int way(int a, int b) {
        int up = Math.floorMod(a - b, 30), down = Math.floorMod(b - a, 30);
        return up < down ? up : down;
    }

    public int nearest(int wreck, int n) {
        if (!piece(wreck) || !in(n, 0, 100)) return BAD;
        int least = NONE;
        for (State t : ahead(n)) {
            Piece own = t.pieces.get(wreck);
            for (int i = 0; i < t.pieces.size(); i++) {
                Piece p = t.pieces.get(i);
                if (i == wreck || !own.up || !p.up || p.height != own.height) continue;
                int way = way(p.place, own.place);
                if (least == NONE || way < least) least = way;
            }
        }
        return least;
    }

    public int seen(int sheet, int what) {
        if (!in(sheet, 0, 3) || !in(what, 0, 1)) return BAD;
        if (rows[sheet] == null) return NOTHING;
        if (s.pieces.isEmpty()) return NONE;
        List<State> ahead = ahead(24);
        int[] least = {NONE, Integer.MAX_VALUE};
        for (int i = 0; i < s.pieces.size(); i++) {
            int sum = 0;
            for (int k = 0; k < rows[sheet].cells.length; k++) {
                if (rows[sheet].cells[k] != null) sum += way(ahead.get(k).pieces.get(i).place, rows[sheet].cells[k]);
            }
            if (sum < least[1]) least = new int[] {i, sum};
        }
        return least[what];
    }

    public int fee() {
        Law l = s.law("fee");
        return l == null ? s.broken : l.value("b", s.broken, "u", s.burnt);
    }

    public int fine(int wreck) {
        if (!piece(wreck)) return BAD;
        Piece p = s.pieces.get(wreck);
        Law l = s.law("fine");
        return l == null ? p.mass : l.value("m", p.mass, "p", p.place);
    }

    public int feed(int a, int b, int c) {
        if (tape.length() + 12 > 96) return FULL;
        for (int v : new int[] {a, b, c}) {
            tape.append((char) (v >> 24 & 255)).append((char) (v >> 16 & 255)).append((char) (v >> 8 & 255)).append((char) (v & 255));
        }
        return tape.length();
    }

    public int trim(int n) {
        if (!in(n, 0, tape.length())) return BAD;
        tape.setLength(n);
        return n;
    }

    private static boolean letter(char c) {
        return c >= 'a' && c <= 'z';
    }

    private static boolean digit(char c) {
        return c >= '0' && c <= '9';
    }

    /** All words and signs, and where each begins. */
    private static List<String> split(String t, List<Integer> begins) {
        List<String> parts = new ArrayList<>();
        int i = 0;
        while (i < t.length()) {
            int j = i + 1;
            if (t.charAt(i) != ' ') {
                while (j < t.length() && (letter(t.charAt(i)) && letter(t.charAt(j)) || digit(t.charAt(i)) && digit(t.charAt(j)))) j++;
                parts.add(t.substring(i, j));
                begins.add(i);
            }
            i = j;
        }
        return parts;
    }

    public int text() {
        String t = tape.toString();
        tape.setLength(0);
        List<Integer> begins = new ArrayList<>();
        List<String> parts = split(t, begins);
        int fault = faultyPart(parts, begins);
        if (fault >= 0) return -100 - (fault < parts.size() ? begins.get(fault) : t.length());
        if (s.laws.size() == 14) return FULL;
        s.laws.add(new Law(parts.get(0), new ArrayList<>(parts.subList(1, parts.size()))));
        return s.laws.size() - 1;
    }

    /** The first part with which no TEXT goes on, found by a machine without recursion; -1: none. */
    private static int faultyPart(List<String> parts, List<Integer> begins) {
        if (parts.isEmpty()) return 0;
        String names = switch (parts.get(0)) {
            case "hard" -> "mhp";
            case "fee" -> "bu";
            case "fine" -> "mp";
            default -> null;
        };
        if (names == null) return 0;
        // For each ( that is open, and for the whole: the ! right ahead of what comes, and whether a test stands in it.
        List<int[]> open = new ArrayList<>();
        open.add(new int[2]);
        boolean wantsPiece = true;
        for (int i = 1; i < parts.size(); i++) {
            String t = parts.get(i);
            int[] in = open.get(open.size() - 1);
            if (wantsPiece) {
                boolean glued = i == 1 && begins.get(1) == parts.get(0).length() + begins.get(0);
                if (digit(t.charAt(0))) {
                    if (t.length() > 4 || glued) return i;
                    wantsPiece = false;
                    in[0] = 0;
                } else if (letter(t.charAt(0))) {
                    if (t.length() > 1 || !names.contains(t) || glued) return i;
                    wantsPiece = false;
                    in[0] = 0;
                } else if (t.equals("!")) {
                    if (open.stream().mapToInt(o -> o[0]).sum() == 8) return i;
                    in[0]++;
                } else if (t.equals("(")) {
                    if (open.size() == 9) return i;
                    open.add(new int[2]);
                } else {
                    return i;
                }
            } else if (t.equals(")")) {
                if (open.size() == 1) return i;
                open.remove(open.size() - 1);
                open.get(open.size() - 1)[0] = 0;
            } else if ("<=>".contains(t)) {
                if (in[1] == 1) return i;
                in[1] = 1;
                wantsPiece = true;
            } else if ("|&+-*/".contains(t)) {
                if ("|&".contains(t)) in[1] = 0;
                wantsPiece = true;
            } else {
                return i;
            }
        }
        return wantsPiece || open.size() > 1 ? parts.size() : -1;
    }

    public int textTold(int text, int what) {
        if (!in(text, 0, s.laws.size() - 1) || !in(what, 0, 1)) return BAD;
        Law l = s.laws.get(text);
        if (what == 0) return List.of("hard", "fee", "fine").indexOf(l.key);
        return (int) l.parts.stream().filter(p -> letter(p.charAt(0)) || digit(p.charAt(0))).count();
    }

    public int why(int key) {
        if (!in(key, 0, 2)) return BAD;
        Law l = s.law(List.of("hard", "fee", "fine").get(key));
        return l == null ? NONE : s.laws.indexOf(l);
    }

    public int sheet(int sheet, int sort, int n) {
        if (!in(sheet, 0, 3) || !in(sort, -1, 1)) return BAD;
        if (sort == -1) {
            rows[sheet] = null;
            return 0;
        }
        if (n > 24) return BAD;
        if (n < 0) return SIZE;
        rows[sheet] = new Row(sort == 1, n);
        return n;
    }

    public int mark(int sheet, int place, int v) {
        if (!in(sheet, 0, 3)) return BAD;
        Row r = rows[sheet];
        if (r == null) return NOTHING;
        if (!in(place, 0, r.cells.length - 1)) return INDEX;
        if (!r.floats && v == NONE) return KIND;
        if (r.floats && v != NONE && Math.abs((long) v) > 99999) return BAD;
        r.cells[place] = v == NONE ? null : Integer.valueOf(r.floats ? v : (short) v);
        return 1;
    }

    public int pour(int sheet) {
        if (!in(sheet, 0, 3)) return BAD;
        if (rows[sheet] == null) return NOTHING;
        int changed = 0;
        for (int i = 0; i < Math.min(rows[sheet].cells.length, s.pieces.size()); i++) {
            Integer v = rows[sheet].cells[i];
            if (v == null) continue;
            int mass = v < 1 ? 1 : v > 99 ? 99 : v;
            if (s.pieces.set(i, s.pieces.get(i).mass(mass)).mass != mass) changed++;
        }
        return changed;
    }

    public int reads(int sheet) {
        if (!in(sheet, 0, 3)) return BAD;
        if (rows[sheet] == null) return NOTHING;
        for (int i = 0; i < rows[sheet].cells.length; i++) {
            Integer v = rows[sheet].cells[i];
            if (v != null && (i >= s.pieces.size() || s.pieces.get(i).place != v)) return i;
        }
        return NONE;
    }

    public int copy(int from, int place, int to, int at, int many) {
        if (!in(from, 0, 3) || !in(to, 0, 3)) return BAD;
        Row a = rows[from], b = rows[to];
        if (a == null || b == null) return NOTHING;
        if (a.floats != b.floats) return KIND;
        try {
            System.arraycopy(a.cells, place, b.cells, at, many);
        } catch (IndexOutOfBoundsException e) {
            return INDEX;
        }
        return many;
    }

    private static int thing(Object o) {
        return o == null ? 0 : o instanceof Piece ? 1 : o instanceof Row ? 2 : 3;
    }

    public int lay(int slot, int thing, int k) {
        if (!in(slot, 0, 4) || !in(thing, 0, 3)) return BAD;
        if (thing == 1 && !piece(k) || thing == 2 && !in(k, 0, 3)) return BAD;
        if (thing == 2 && rows[k] == null) return NOTHING;
        int was = thing(slots[slot]);
        slots[slot] = thing == 0 ? null : thing == 1 ? s.pieces.get(k) : thing == 2 ? rows[k].another() : (Object) k;
        return was;
    }

    public int ask(int slot, int kind) {
        if (!in(slot, 0, 4) || !in(kind, 0, 5)) return BAD;
        if (slots[slot] == null) return NOTHING;
        return slots[slot] instanceof Piece p && p.is(kind) ? p.worth(p.kind) : KIND;
    }

    public int item(int slot, int place) {
        if (!in(slot, 0, 4)) return BAD;
        if (slots[slot] == null) return NOTHING;
        if (!(slots[slot] instanceof Row r)) return KIND;
        if (!in(place, 0, r.cells.length - 1)) return INDEX;
        return r.cells[place] == null ? KIND : r.cells[place];
    }

    public int rest(int slot, int n) {
        if (!in(slot, 0, 4)) return BAD;
        if (slots[slot] == null) return NOTHING;
        if (!(slots[slot] instanceof Integer v)) return KIND;
        return n == 0 ? NO : (int) ((long) v % n);
    }

    public int tell(int v) {
        if (waiting.size() == 60) return FULL;
        waiting.add(v);
        return waiting.size();
    }

    public int check(int n) {
        List<Integer> told = new ArrayList<>(waiting);
        waiting.clear();
        if (!in(n, 1, 30)) return BAD;
        if (image == null) return NO;
        List<Integer> due = new ArrayList<>();
        State t = image.another();
        for (int i = 0; i < n && t.hour < 9999; i++) {
            t.hour();
            due.add(t.broken);
            due.add(t.pieces.stream().filter(Piece::up).mapToInt(Piece::place).sum());
        }
        if (told.equals(due)) return 0;
        int same = 0;
        while (same < told.size() && same < due.size() && told.get(same).equals(due.get(same))) same++;
        return 1 + same;
    }

    public int keep() {
        image = s.another();
        return s.pieces.size();
    }

    public int back() {
        if (image == null) return NO;
        s = image.another();
        return s.pieces.size();
    }

    public int count(int what) {
        return in(what, 0, 7) ? new int[] {s.pieces.size(), s.hour, s.drag, s.ups(), s.laws.size(), waiting.size(), tape.length(), s.z}[what] : BAD;
    }
}

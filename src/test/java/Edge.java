import java.util.ArrayList;
import java.util.List;

/** What the tests of the boundary cases share: skies to start from, and the proof that a call left all as it was. */
final class Edge {
    static final int BAD = -1000000001, NO = -1000000002, FULL = -1000000003, NONE = -1000000005;
    static final int NOTHING = -1000000011, KIND = -1000000012, INDEX = -1000000013, SIZE = -1000000014;
    static final int LOW = Integer.MIN_VALUE, HIGH = Integer.MAX_VALUE;
    /** Answers above this many would not be promised any more: makers and acts need the rest of the 512 calls. */
    private static final int MOST_ASKED = 390;

    private final Due due;

    interface Maker {
        WreckSky make();
    }

    interface Act {
        int on(WreckSky x);
    }

    Edge(String name) {
        due = new Due(name);
    }

    void is(String what, int got, int want) {
        due.is(what, got, want);
    }

    void end() {
        due.end();
    }

    /** The act answers so, and all that can be asked then is as with a twin that never heard of it. */
    void leaves(String what, Maker maker, Act act, int want) {
        leavesBut(what, maker, act, want, y -> 0);
    }

    void leaves(String what, Act act, int want) {
        leaves(what, Edge::rich, act, want);
    }

    /** A question, or a thought: whatever it answers, it leaves all as it was. */
    void asks(String what, Act act) {
        leaves(what, Edge::rich, act, act.on(rich()));
    }

    /** As above, but for what the document says that the act does all the same, which is done to the twin. */
    void leavesBut(String what, Maker maker, Act act, int want, Act toTwin) {
        WreckSky x = maker.make();
        WreckSky y = maker.make();
        due.is(what, act.on(x), want);
        toTwin.on(y);
        List<String> got = asked(x);
        List<String> as = asked(y);
        due.holds(what + ": asked within the 512 calls", got.size() <= MOST_ASKED);
        for (int i = 0; i < Math.max(got.size(), as.size()); i++) {
            String a = i < got.size() ? got.get(i) : "nothing";
            String b = i < as.size() ? as.get(i) : "nothing";
            if (!a.equals(b)) {
                due.is(what + ": it left " + a + ", it was " + b, 1, 0);
                return;
            }
        }
        due.is(what + ": all is as it was", 1, 1);
    }

    /** Both edges of a number: what is outside answers BAD and changes nothing. */
    void outside(String what, int least, int most, java.util.function.IntFunction<Act> calls) {
        outside(what, Edge::rich, least, most, calls);
    }

    void outside(String what, Maker maker, int least, int most, java.util.function.IntFunction<Act> calls) {
        for (int v : new int[] {least - 1, most + 1, LOW, HIGH}) {
            leaves(what + " " + v, maker, calls.apply(v), BAD);
        }
    }

    /** All that can be asked of it, the questions that change something (THE TAPE read, the IMAGE gone back to) last. */
    static List<String> asked(WreckSky x) {
        List<String> found = new ArrayList<>();
        numbers(x, found, 9);
        int texts = x.count(4);
        for (int t = 0; t < texts; t++) {
            note(found, "textTold " + t, x.textTold(t, 0));
            note(found, "its operands", x.textTold(t, 1));
        }
        for (int slot = 0; slot < 5; slot++) {
            note(found, "ask " + slot, x.ask(slot, 0));
            note(found, "rest " + slot, x.rest(slot, HIGH));
            cells(x, found, slot);
        }
        for (int sheet = 0; sheet < 4; sheet++) {
            note(found, "sheet to slot " + sheet, x.lay(4, 2, sheet) < 0 ? -1 : 0);
            cells(x, found, 4);
            note(found, "its sort", x.mark(sheet, 0, NONE));
            note(found, "its sort beside 0's", x.copy(0, 0, sheet, 0, 0));
        }
        note(found, "check", x.check(2));
        note(found, "text", x.text());
        laws(x, found);
        note(found, "back", x.back());
        numbers(x, found, 6);
        laws(x, found);
        return found;
    }

    private static void note(List<String> found, String what, int answer) {
        found.add(what + " = " + answer);
    }

    private static void numbers(WreckSky x, List<String> found, int whats) {
        for (int what = 0; what < 8; what++) {
            note(found, "count " + what, x.count(what));
            note(found, "sky " + what, x.sky(what));
        }
        int wrecks = x.count(0);
        for (int i = 0; i < wrecks; i++) {
            for (int what = 0; what < whats; what++) {
                note(found, "told " + i + " " + what, x.told(i, what));
            }
        }
    }

    private static void cells(WreckSky x, List<String> found, int slot) {
        for (int place = 0; place < 25; place++) {
            int v = x.item(slot, place);
            note(found, "item " + slot + " " + place, v);
            if (v == NOTHING || v == INDEX || v == KIND && place == 0 && x.item(slot, 24) == KIND) return;
        }
    }

    private static void laws(WreckSky x, List<String> found) {
        note(found, "fee", x.fee());
        for (int i = 0; i < 3; i++) {
            note(found, "why " + i, x.why(i));
            note(found, "hard of " + i, x.told(i, 6));
            note(found, "fine of " + i, x.fine(i));
        }
    }

    static WreckSky with(int... wrecks) {
        WreckSky x = new WreckSky();
        for (int i = 0; i + 4 < wrecks.length; i += 5) {
            x.wreck(wrecks[i], wrecks[i + 1], wrecks[i + 2], wrecks[i + 3], wrecks[i + 4]);
        }
        return x;
    }

    /** Five WRECKS (4 is GONE), an IMAGE that is otherwise, laws, SHEETS of each sort, SLOTS of each thing, a TAPE, numbers. */
    static WreckSky rich() {
        WreckSky x = with(0, 2, 3, 1, 10, 1, 2, 17, -1, 8, 3, 3, 5, 2, 15, 4, 1, 0, 3, 9, 5, 0, 10, 0, 30);
        x.drag(40);
        Due.text(x, "hard m+1");
        x.keep();
        x.hours(1);
        x.sweep(4);
        Due.text(x, "fee b*2+u");
        Due.text(x, "fine m-p");
        x.drag(30);
        x.sheet(0, 0, 3);
        x.mark(0, 1, -5);
        x.sheet(1, 1, 2);
        x.mark(1, 0, NONE);
        x.mark(1, 1, 77);
        x.sheet(2, 1, 0);
        x.lay(0, 1, 2);
        x.lay(1, 2, 0);
        x.lay(2, 3, -17);
        // The HOURS TOLD of the IMAGE, two of them: none breaks by then.
        x.tell(0);
        x.tell(4 + 16 + 7 + 26 + 11);
        x.tell(0);
        x.tell(5 + 15 + 7 + 22 + 12);
        Due.tape(x, "fee b*3-u+9");
        return x;
    }

    /** 14 WRECKS, each at a PLACE and a HEIGHT where it meets none. */
    static WreckSky crowded() {
        WreckSky x = new WreckSky();
        for (int i = 0; i < 14; i++) {
            x.wreck(0, i % 8, 2 * i, 0, 10 + i);
        }
        return x;
    }

    /** The same sky, at an HOUR up to 9999; it takes up to 101 calls. */
    static WreckSky at(int hour, WreckSky x) {
        while (x.count(1) + 100 <= hour) {
            x.hours(100);
        }
        if (x.count(1) < hour) x.hours(hour - x.count(1));
        return x;
    }

    static int after(int z) {
        return z * 1103515245 + 12345;
    }

    static int drawn(int z) {
        return z >>> 8;
    }

    /** A z from which, with that DRAG, the first WRECK to sink does so in that HOUR, and is that one of so many. */
    static int sinksFirst(int hour, int drag, int which, int of) {
        for (int seed = 1; seed < 5000000; seed++) {
            int z = after(seed);
            int sinks = 1;
            while (sinks < hour && drawn(z) % 100 >= drag) {
                z = after(z);
                sinks++;
            }
            if (sinks == hour && drawn(z) % 100 < drag && drawn(after(z)) % of == which) {
                return seed;
            }
        }
        return 0;
    }

    /** The same sky, with that DRAG and a z by which the first to sink does so in that HOUR. */
    static WreckSky sinking(WreckSky x, int hour, int drag, int which) {
        x.drag(drag);
        x.seed(sinksFirst(hour, drag, which, x.count(0)));
        return x;
    }
}

/** For each promise its ordinary answers, its edges and its refusals; every number here was worked out by hand. */
public final class PromisesTest {
    private static final int BAD = -1000000001, NO = -1000000002, FULL = -1000000003, NONE = -1000000005;
    private static final int NOTHING = -1000000011, KIND = -1000000012, INDEX = -1000000013, SIZE = -1000000014;
    private static final int LOW = Integer.MIN_VALUE, HIGH = Integer.MAX_VALUE;
    private static final Due DUE = new Due("PromisesTest");

    public static void main(String[] args) {
        newObject();
        wreck();
        told();
        as();
        turns();
        set();
        sweep();
        drag();
        at();
        deal();
        seed();
        hoursGo();
        hoursBreak();
        hoursSink();
        hoursEnd();
        sky();
        behind();
        first();
        hole();
        open();
        best();
        push();
        under();
        nearest();
        seen();
        fee();
        fine();
        feed();
        trim();
        textWords();
        textFaults();
        textDepth();
        textValues();
        textFull();
        textTold();
        why();
        sheet();
        mark();
        pour();
        reads();
        copy();
        lay();
        ask();
        item();
        rest();
        tell();
        check();
        checkAtTheEnd();
        keepAndBack();
        lawsOfThen();
        count();
        DUE.end();
    }

    private static void due(String what, int got, int want) {
        DUE.is(what, got, want);
    }

    private static WreckSky with(int... wrecks) {
        WreckSky x = new WreckSky();
        for (int i = 0; i + 4 < wrecks.length; i += 5) {
            due("made", x.wreck(wrecks[i], wrecks[i + 1], wrecks[i + 2], wrecks[i + 3], wrecks[i + 4]), i / 5);
        }
        return x;
    }

    private static void newObject() {
        WreckSky x = new WreckSky();
        for (int what = 0; what <= 6; what++) {
            due("1: count " + what, x.count(what), 0);
        }
        due("1: z", x.count(7), 1);
        for (int what = 0; what <= 5; what++) {
            due("1: sky " + what, x.sky(what), 0);
        }
        due("1: no wreck", x.told(0, 0), BAD);
        due("1: missing", x.reads(3), NOTHING);
        due("1: holds nothing", x.item(4, 0), NOTHING);
        due("1: no text", x.why(0), NONE);
        due("1: no image", x.back(), NO);
    }

    private static void wreck() {
        WreckSky x = with(0, 0, 0, -9, 1, 5, 7, 29, 9, 99);
        due("2: kind", x.wreck(-1, 0, 0, 0, 1), BAD);
        due("2: kind", x.wreck(6, 0, 0, 0, 1), BAD);
        due("2: height", x.wreck(0, -1, 0, 0, 1), BAD);
        due("2: height", x.wreck(0, 8, 0, 0, 1), BAD);
        due("2: place", x.wreck(0, 0, -1, 0, 1), BAD);
        due("2: place", x.wreck(0, 0, 30, 0, 1), BAD);
        due("2: pace", x.wreck(0, 0, 0, -10, 1), BAD);
        due("2: pace", x.wreck(0, 0, 0, 10, 1), BAD);
        due("2: mass", x.wreck(0, 0, 0, 0, 0), BAD);
        due("2: mass", x.wreck(0, 0, 0, 0, 100), BAD);
        for (int i = 2; i < 14; i++) {
            due("2: more", x.wreck(1, 1, i, 0, 5), i);
        }
        due("2: full", x.wreck(1, 1, 1, 0, 5), FULL);
        due("2: bad ahead of full", x.wreck(6, 1, 1, 0, 5), BAD);
        x.sweep(3);
        due("2: a gone one keeps its room", x.wreck(1, 1, 1, 0, 5), FULL);
        due("2: up", x.told(13, 5), 1);
    }

    private static void told() {
        WreckSky x = with(3, 4, 5, -6, 7);
        int[] want = {3, 4, 5, -6, 7, 1, 8, -6, 32};
        for (int what = 0; what < 9; what++) {
            due("3: what " + what, x.told(0, what), want[what]);
        }
        int[] hard = {40, 50, 31, 25, 0, 80};
        int[] goes = {0, 0, 1, 0, -1, 1};
        int[] worth = {40, 49, 59, 98, 54, 2};
        for (int kind = 0; kind < 6; kind++) {
            WreckSky y = with(kind, 0, 0, 0, 40);
            due("3: hard of kind " + kind, y.told(0, 6), hard[kind]);
            due("3: goes of kind " + kind, y.told(0, 7), goes[kind]);
            due("3: worth of kind " + kind, y.told(0, 8), worth[kind]);
        }
        due("3: a light bolt", with(2, 0, 0, 0, 8).told(0, 6), 0);
        due("3: the other way round", with(4, 0, 0, -9, 8).told(0, 7), 8);
        due("3: dead, but it goes", with(5, 0, 0, -4, 8).told(0, 7), -4);
        x.hours(1);
        due("3: owned at an odd hour", x.told(0, 7), 0);
        x.hours(1);
        due("3: owned at an even hour", x.told(0, 7), -6);
        due("3: wreck", x.told(1, 0), BAD);
        due("3: wreck", x.told(-1, 0), BAD);
        due("3: what", x.told(0, -1), BAD);
        due("3: what", x.told(0, 9), BAD);
    }

    private static void as() {
        boolean[][] under = {
            {true, false, false, false, false, false}, {true, true, false, false, false, false},
            {true, false, true, false, false, false}, {true, true, false, true, false, false},
            {true, false, true, false, true, false}, {true, false, false, false, false, true}};
        for (int kind = 0; kind < 6; kind++) {
            WreckSky x = with(kind, 0, 0, 0, 33);
            for (int asked = 0; asked < 6; asked++) {
                due("4: " + kind + " as " + asked, x.as(0, asked), under[kind][asked] ? 33 : KIND);
            }
            due("4: kind", x.as(0, 6), BAD);
            due("4: kind", x.as(0, -1), BAD);
            due("4: wreck", x.as(1, 0), BAD);
            due("4: wreck", x.as(-1, 0), BAD);
        }
    }

    private static void turns() {
        WreckSky x = with(3, 0, 0, 0, 9);
        due("5: was", x.turns(0, 5), 3);
        due("5: is", x.told(0, 0), 5);
        due("5: hard", x.told(0, 6), 18);
        due("5: kind", x.turns(0, 6), BAD);
        due("5: kind", x.turns(0, -1), BAD);
        due("5: wreck", x.turns(1, 0), BAD);
        due("5: still", x.turns(0, 5), 5);
    }

    private static void set() {
        WreckSky x = with(0, 1, 2, 3, 4);
        int[] least = {0, 0, 0, -9, 1, 0};
        int[] most = {0, 7, 29, 9, 99, 1};
        int[] was = {0, 1, 2, 3, 4, 1};
        for (int what = 1; what <= 5; what++) {
            due("6: below", x.set(0, what, least[what] - 1), BAD);
            due("6: above", x.set(0, what, most[what] + 1), BAD);
            due("6: far", x.set(0, what, LOW), BAD);
            due("6: far", x.set(0, what, HIGH), BAD);
            due("6: was", x.set(0, what, least[what]), was[what]);
            due("6: was least", x.set(0, what, most[what]), least[what]);
            due("6: is most", x.told(0, what), most[what]);
        }
        due("6: what", x.set(0, 0, 1), BAD);
        due("6: what", x.set(0, 6, 1), BAD);
        due("6: wreck", x.set(1, 1, 1), BAD);
        due("6: wreck", x.set(-1, 1, 1), BAD);
        x.set(0, 5, 0);
        due("6: gone, not swept", x.sky(2), 0);
    }

    private static void sweep() {
        WreckSky x = with(0, 1, 2, 3, 4);
        due("7: wreck", x.sweep(1), BAD);
        due("7: wreck", x.sweep(-1), BAD);
        due("7: mass", x.sweep(0), 4);
        due("7: gone", x.told(0, 5), 0);
        due("7: swept", x.sky(2), 1);
        due("7: again", x.sweep(0), NO);
        due("7: swept still", x.sky(2), 1);
        x.hours(1);
        due("7: it goes no more", x.told(0, 2), 2);
    }

    private static void drag() {
        WreckSky x = new WreckSky();
        due("8: at first", x.drag(100), 0);
        due("8: above", x.drag(101), BAD);
        due("8: below", x.drag(-1), BAD);
        due("8: was", x.drag(0), 100);
        due("8: is", x.count(2), 0);
    }

    private static void at() {
        WreckSky x = with(0, 1, 2, 0, 4, 0, 1, 3, 0, 4, 0, 1, 2, 0, 4, 0, 2, 2, 0, 4);
        due("9: two", x.at(1, 2), 5);
        due("9: one", x.at(1, 3), 2);
        due("9: none", x.at(0, 0), 0);
        due("9: the last height and place", x.at(7, 29), 0);
        x.sweep(0);
        due("9: up alone", x.at(1, 2), 4);
        due("9: height", x.at(-1, 0), BAD);
        due("9: height", x.at(8, 0), BAD);
        due("9: place", x.at(0, -1), BAD);
        due("9: place", x.at(0, 30), BAD);
    }

    private static void deal() {
        WreckSky x = new WreckSky();
        due("10: one", x.deal(1), 1);
        int z = 1;
        int[] by = {6, 8, 30, 19, 30};
        int[] more = {0, 0, 0, -9, 1};
        for (int what = 0; what < 5; what++) {
            z = z * 1103515245 + 12345;
            due("10: drawn " + what, x.told(0, what), (z >>> 8) % by[what] + more[what]);
        }
        due("10: z", x.count(7), z);
        due("10: up", x.told(0, 5), 1);
        due("10: below", x.deal(0), BAD);
        due("10: above", x.deal(15), BAD);
        due("10: no draw", x.count(7), z);
        due("10: thirteen are room", x.deal(14), 13);
        z = x.count(7);
        due("10: no room", x.deal(3), 0);
        due("10: no draws for others", x.count(7), z);
    }

    private static void seed() {
        WreckSky x = new WreckSky();
        due("11: at first", x.seed(LOW), 1);
        due("11: was", x.seed(-7), LOW);
        due("11: is", x.count(7), -7);
    }

    private static void hoursGo() {
        WreckSky x = with(0, 0, 29, 9, 5, 2, 1, 0, -9, 5, 3, 2, 10, 4, 5, 4, 3, 0, 9, 5, 5, 4, 29, 0, 5);
        due("12: none broke", x.hours(1), 0);
        int[] one = {8, 22, 14, 20, 0};
        for (int i = 0; i < 5; i++) {
            due("12: place of " + i, x.told(i, 2), one[i]);
        }
        due("12: the hour", x.count(1), 1);
        x.hours(2);
        int[] three = {26, 6, 18, 0, 2};
        for (int i = 0; i < 5; i++) {
            due("12: place then of " + i, x.told(i, 2), three[i]);
        }
        due("12: below", x.hours(0), BAD);
        due("12: above", x.hours(101), BAD);
        due("12: the hour", x.count(1), 3);
    }

    private static void hoursBreak() {
        WreckSky x = with(0, 3, 5, 0, 7, 0, 3, 4, 1, 6);
        due("12: broken", x.hours(1), 1);
        due("12: broken in them alone", x.hours(1), 0);
        x.set(0, 2, 5);
        due("12: half", x.told(1, 4), 3);
        x = with(0, 3, 5, 0, 7, 0, 3, 4, 1, 6);
        x.hours(1);
        int[] piece = {2, 3, 5, 2, 3, 1};
        for (int what = 0; what < 6; what++) {
            due("12: the piece " + what, x.told(2, what), piece[what]);
        }
        WreckSky like = with(0, 3, 5, 0, 7, 0, 3, 5, 0, 7);
        like.hours(1);
        due("12: of like ones the lesser stays", like.told(0, 4), 7);
        due("12: of like ones the greater breaks", like.told(1, 4), 3);
        due("12: what is lacking", like.told(2, 4), 4);
        WreckSky one = with(0, 3, 5, 9, 1, 0, 3, 5, 9, 2);
        due("12: mass 1", one.hours(1), 1);
        due("12: is gone", one.told(0, 5), 0);
        due("12: no piece", one.count(0), 2);
        due("12: not burnt", one.sky(1), 0);
        WreckSky fast = with(0, 3, 5, 9, 8, 0, 3, 5, 9, 4);
        fast.hours(1);
        due("12: pace 9 at most", fast.told(2, 3), 9);
        // Of three in one place: 0 and 1, 0 and 2, 1 and 2 meet, by what each has become by then.
        WreckSky three = with(0, 0, 0, 0, 20, 0, 0, 0, 0, 50, 0, 0, 0, 0, 21);
        due("12: three meetings", three.hours(1), 3);
        due("12: 0 broke twice", three.told(0, 4), 5);
        due("12: 1 is whole", three.told(1, 4), 50);
        due("12: 2 broke", three.told(2, 4), 10);
        due("12: three pieces", three.count(0), 6);
        WreckSky full = new WreckSky();
        for (int i = 0; i < 14; i++) {
            full.wreck(0, i < 2 ? 0 : 1, i, 0, 10);
        }
        full.set(0, 2, 1);
        due("12: broken without room", full.hours(1), 1);
        due("12: half is lost", full.told(1, 4), 5);
        due("12: no more than 14", full.count(0), 14);
        WreckSky apart = with(0, 3, 5, 0, 7, 0, 4, 5, 0, 7);
        due("12: not at one height", apart.hours(9), 0);
        apart.set(1, 1, 3);
        apart.sweep(0);
        due("12: not with a gone one", apart.hours(1), 0);
        WreckSky kinds = with(5, 0, 0, 0, 10, 0, 0, 1, 0, 19);
        kinds.hours(1);
        due("12: hard by kind", kinds.told(1, 4), 9);
    }

    private static void hoursSink() {
        WreckSky x = with(0, 1, 0, 0, 5);
        x.hours(1);
        due("12: one draw", x.count(7), 1103527590);
        x.drag(100);
        x.hours(1);
        due("12: sinks", x.told(0, 1), 0);
        int z = 1;
        for (int i = 0; i < 3; i++) {
            z = z * 1103515245 + 12345;
        }
        due("12: two draws more", x.count(7), z);
        x.hours(1);
        due("12: gone", x.told(0, 5), 0);
        due("12: burnt", x.sky(1), 1);
        x.hours(5);
        due("12: burnt once", x.sky(1), 1);
        WreckSky none = new WreckSky();
        none.drag(100);
        none.hours(1);
        due("12: one draw without wrecks", none.count(7), 1103527590);
        none.seed(1);
        none.hours(3);
        due("12: one draw an hour without wrecks", none.count(7), z);
        none.wreck(0, 3, 0, 0, 5);
        none.set(0, 5, 0);
        none.seed(1);
        none.hours(1);
        due("12: two draws with one that is gone", none.count(7), 1103527590 * 1103515245 + 12345);
        due("12: what is gone does not sink", none.told(0, 1), 3);
        // The first draw from 1 is 4310654; its rest by 100 is 54.
        WreckSky edge = with(0, 5, 0, 0, 5);
        edge.drag(54);
        edge.hours(1);
        due("12: a rest that is not below drag", edge.told(0, 1), 5);
        edge.seed(1);
        edge.drag(55);
        edge.hours(1);
        due("12: a rest that is below drag", edge.told(0, 1), 4);
    }

    private static void hoursEnd() {
        WreckSky x = with(0, 0, 0, 1, 5);
        for (int i = 0; i < 99; i++) {
            x.hours(100);
        }
        due("12: the hour", x.count(1), 9900);
        due("12: up to 9999", x.hours(100), 0);
        due("12: the hour", x.count(1), 9999);
        int place = x.told(0, 2);
        due("12: 9999 places on", place, 9999 % 30);
        int z = x.count(7);
        due("12: no more", x.hours(1), 0);
        due("12: it stays", x.told(0, 2), place);
        due("12: no draw", x.count(7), z);
        due("14: thought goes on", x.behind(1, 3), place + 1);
    }

    private static void sky() {
        WreckSky x = with(0, 3, 5, 0, 7, 0, 3, 5, 0, 6, 0, 7, 0, 0, 9, 0, 0, 0, 0, 1);
        x.hours(1);
        x.sweep(2);
        x.drag(100);
        for (int i = 0; i < 60 && x.sky(1) == 0; i++) {
            x.hours(1);
        }
        due("13: burnt", x.sky(1), 1);
        due("13: swept", x.sky(2), 1);
        WreckSky y = with(0, 3, 5, 0, 7, 0, 3, 5, 0, 6, 0, 7, 0, 0, 9, 0, 0, 0, 0, 1);
        y.sweep(2);
        due("13: up", y.sky(3), 11);
        due("13: mass", y.sky(4), 14);
        due("13: heights", y.sky(5), 9);
        WreckSky lone = with(0, 4, 5, 0, 7, 0, 3, 5, 0, 6);
        lone.sweep(1);
        due("13: height of the only one", lone.sky(5), 16);
        y.hours(1);
        due("13: broken", y.sky(0), 1);
        due("13: what", y.sky(-1), BAD);
        due("13: what", y.sky(6), BAD);
    }

    private static void behind() {
        WreckSky x = with(0, 0, 0, 2, 5, 0, 0, 10, -2, 9);
        due("14: now", x.behind(0, 3), 0);
        due("14: later", x.behind(2, 3), 4);
        due("14: broken not yet", x.behind(2, 0), 0);
        due("14: they come by without a meeting", x.behind(3, 0), 0);
        due("14: many hours", x.behind(100, 4), Math.floorMod(10 - 200, 30));
        x.set(1, 2, 12);
        due("14: they meet", x.behind(3, 0), 1);
        due("14: three are up", x.behind(3, 2), 3);
        due("14: nothing changes", x.count(0), 2);
        due("14: nothing changes", x.count(1), 0);
        due("14: nothing changes", x.count(7), 1);
        due("14: place stays", x.told(0, 2), 0);
        due("14: a wreck that is none yet", x.behind(3, 5), BAD);
        x.drag(100);
        x.hours(50);
        int burnt = x.sky(1);
        WreckSky y = with(0, 0, 0, 2, 5, 0, 0, 12, -2, 9);
        y.drag(100);
        due("14: burnt as it comes", y.behind(50, 1), burnt);
        due("14: n", x.behind(-1, 0), BAD);
        due("14: n", x.behind(101, 0), BAD);
        due("14: what", x.behind(0, -1), BAD);
        due("14: what", new WreckSky().behind(0, 3), BAD);
    }

    private static void first() {
        WreckSky x = with(0, 0, 0, 1, 5, 0, 0, 20, 0, 9);
        due("15: first", x.first(), 20);
        x.hours(19);
        due("15: next", x.first(), 1);
        x.hours(1);
        due("15: broken", x.sky(0), 1);
        x.sweep(0);
        x.sweep(1);
        due("15: none", x.first(), NONE);
        due("15: no wrecks", new WreckSky().first(), NONE);
        // An OWNED one goes only in every other hour; as a WRECK it meets at the first.
        WreckSky late = with(3, 0, 0, 1, 5, 0, 0, 29, 0, 9);
        due("15: every other hour", late.first(), 57);
        due("15: at 200", overAnother(200).first(), 200);
        due("15: not at 201", overAnother(201).first(), NONE);
    }

    private static int after(int z) {
        return z * 1103515245 + 12345;
    }

    /** With DRAG 2 and a z from which of two WRECKS, one over the other, the upper sinks first, so that they meet in that hour. */
    private static WreckSky overAnother(int hour) {
        for (int seed = 1; seed < 1000000; seed++) {
            int z = after(seed);
            int sunk = 1;
            while (sunk < hour && (z >>> 8) % 100 >= 2) {
                z = after(z);
                sunk++;
            }
            if (sunk == hour - 1 && (after(z) >>> 8) % 2 == 1) {
                WreckSky x = with(0, 0, 9, 0, 5, 0, 1, 9, 0, 7);
                x.drag(2);
                x.seed(seed);
                return x;
            }
        }
        return new WreckSky();
    }

    /** With DRAG 4 and a z from which the one WRECK, at HEIGHT 0, burns in that hour. */
    private static WreckSky burning(int hour) {
        for (int seed = 1; seed < 1000000; seed++) {
            int z = after(seed);
            int burns = 1;
            while (burns <= hour && (z >>> 8) % 100 >= 4) {
                z = after(z);
                burns++;
            }
            if (burns == hour) {
                WreckSky x = with(0, 0, 9, 0, 5);
                x.drag(4);
                x.seed(seed);
                return x;
            }
        }
        return new WreckSky();
    }

    private static void hole() {
        WreckSky x = with(0, 0, 4, 0, 5);
        due("16: under it for good", x.hole(4), NONE);
        due("16: beside it", x.hole(5), 0);
        WreckSky y = with(0, 0, 4, 1, 5, 0, 7, 11, 0, 5);
        due("16: it goes on", y.hole(4), 1);
        due("16: the first hour is free", y.hole(5), 0);
        due("16: one at the top", y.hole(11), NONE);
        // At HEIGHT 3 behind 3 HOURS it stands over PLACE 9.
        WreckSky z = with(0, 3, 6, 1, 5);
        due("16: by how it is then", z.hole(9), 1);
        due("16: not by how it is now", z.hole(6), 0);
        z.sweep(0);
        due("16: gone", z.hole(9), 0);
        due("16: at 60", burning(60).hole(9), 60);
        due("16: not at 61", burning(61).hole(9), NONE);
        due("17: at 60", burning(60).open(60), 1);
        due("16: place", x.hole(-1), BAD);
        due("16: place", x.hole(30), BAD);
    }

    private static void open() {
        WreckSky x = with(0, 0, 4, 0, 5, 0, 0, 6, 1, 5, 0, 1, 6, 1, 5);
        // 4 never, until one comes by and breaks; 6 is met now, 7 at HEIGHT 1 behind 1 HOUR (and at HEIGHT 0 too).
        due("17: open at once", x.open(0), 27);
        due("17: k 1", x.open(1), 1);
        due("17: k 2", x.open(2), 1);
        int sum = 0;
        for (int n = 0; n <= 60; n++) {
            sum += x.open(n);
        }
        due("17: all but one", sum, 29);
        due("17: n", x.open(-1), BAD);
        due("17: n", x.open(61), BAD);
        due("17: no wrecks", new WreckSky().open(0), 30);
        due("17: just then", new WreckSky().open(1), 0);
    }

    private static void best() {
        WreckSky x = with(0, 0, 0, 0, 90, 0, 0, 5, 0, 80, 0, 0, 10, -5, 3);
        due("18: the one that goes", x.best(1, 0), 1);
        due("18: broken", x.best(1, 1), 0);
        due("18: behind 2 hours", x.best(2, 0), 2);
        due("18: broken", x.best(2, 1), 0);
        due("18: nothing changes", x.sky(3), 7);
        WreckSky none = with(0, 0, 0, 0, 90);
        due("18: of several the least", with(0, 0, 0, 0, 9, 0, 1, 0, 0, 9).best(60, 0), 0);
        none.sweep(0);
        due("18: none is up", none.best(1, 0), NONE);
        due("18: none is up", none.best(1, 1), NONE);
        WreckSky gone = with(0, 0, 0, 0, 90, 0, 0, 5, 0, 80);
        gone.sweep(0);
        due("18: one that is up", gone.best(5, 0), 1);
        WreckSky counted = with(0, 0, 0, 0, 90, 0, 0, 0, 0, 80);
        counted.hours(1);
        due("18: with those that broke", counted.best(1, 1) >= 1 ? 1 : 0, 1);
        due("18: n", x.best(0, 0), BAD);
        due("18: n", x.best(61, 0), BAD);
        due("18: what", x.best(1, 2), BAD);
        due("18: what", x.best(1, -1), BAD);
        due("18: bad ahead of none", none.best(0, 0), BAD);
    }

    private static void push() {
        WreckSky x = with(0, 0, 0, 0, 90, 0, 0, 9, 0, 80);
        due("19: the least pace", x.push(1, 2, 0), -8);
        due("19: broken", x.push(1, 2, 1), 0);
        due("19: the other one", x.push(0, 1, 0), -9);
        x.set(1, 2, 21);
        due("19: pace -9 would meet", x.push(0, 1, 0), -8);
        due("19: nothing changes", x.told(0, 3), 0);
        x.sweep(1);
        due("19: a gone one too", x.push(1, 60, 0), -9);
        // Each PACE but 9 meets one of these in the first hour or in the second.
        WreckSky all = with(0, 0, 0, 0, 90);
        for (int place : new int[] {14, 16, 12, 24, 25, 26, 28, 0, 2, 8, 6, 10}) {
            all.wreck(0, 0, place, 0, 50);
        }
        due("19: the greatest pace", all.push(0, 2, 0), 9);
        due("19: breaks none", all.push(0, 2, 1), 0);
        due("19: wreck", x.push(2, 1, 0), BAD);
        due("19: wreck", x.push(-1, 1, 0), BAD);
        due("19: n", x.push(0, 0, 0), BAD);
        due("19: n", x.push(0, 61, 0), BAD);
        due("19: what", x.push(0, 1, 2), BAD);
        due("19: what", x.push(0, 1, -1), BAD);
    }

    private static void under() {
        WreckSky x = with(0, 0, 3, 1, 90, 0, 1, 7, 0, 80, 0, 5, 7, 0, 80);
        due("20: the place", x.under(3, 0), 7);
        due("20: hours, not wrecks", x.under(3, 1), 3);
        x.sweep(1);
        x.sweep(2);
        due("20: of several the least, at the ends", x.under(3, 0), 4);
        due("20: of one", x.under(3, 1), 1);
        due("20: around", x.under(100, 1), 4);
        due("20: one hour", x.under(1, 0), 4);
        due("20: place 0", with(0, 3, 0, 0, 90).under(5, 1), 5);
        due("20: place 1", with(0, 3, 1, 0, 90).under(5, 0), 1);
        due("20: place 29", with(0, 3, 29, 0, 90).under(5, 0), 29);
        x.sweep(0);
        due("20: none is up", x.under(9, 0), 0);
        due("20: none is up", x.under(9, 1), 0);
        due("20: n", x.under(0, 0), BAD);
        due("20: n", x.under(101, 0), BAD);
        due("20: what", x.under(1, 2), BAD);
        due("20: what", x.under(1, -1), BAD);
    }

    private static void nearest() {
        WreckSky x = with(0, 0, 2, 0, 90, 0, 0, 27, 1, 80, 0, 1, 2, 0, 80);
        due("21: round", x.nearest(0, 0), 5);
        due("21: nearer", x.nearest(0, 2), 3);
        due("21: like for both", x.nearest(1, 2), 3);
        due("21: at another height", x.nearest(2, 100), NONE);
        x.sweep(1);
        due("21: another one that is up", x.nearest(0, 9), NONE);
        due("21: while it is up", x.nearest(1, 9), NONE);
        due("21: wreck", x.nearest(3, 0), BAD);
        due("21: wreck", x.nearest(-1, 0), BAD);
        due("21: n", x.nearest(0, -1), BAD);
        due("21: n", x.nearest(0, 101), BAD);
        // What breaks off is another one too.
        WreckSky y = with(0, 0, 2, 0, 90, 0, 1, 2, 0, 80, 0, 1, 3, -1, 3);
        due("21: half way round", with(0, 0, 0, 0, 1, 0, 0, 15, 0, 1).nearest(0, 0), 15);
        due("21: no height but its own", y.nearest(0, 50), NONE);
    }

    private static void seen() {
        WreckSky x = with(0, 0, 28, 1, 90, 0, 1, 4, -1, 80);
        x.sheet(0, 0, 3);
        x.mark(0, 0, 28);
        x.mark(0, 1, -1);
        x.mark(0, 2, 60);
        due("22: just so", x.seen(0, 0), 0);
        due("22: no difference", x.seen(0, 1), 0);
        x.mark(0, 0, 4);
        x.mark(0, 1, 33);
        x.mark(0, 2, 31);
        due("22: the other one", x.seen(0, 0), 1);
        due("22: by the nearer way", x.seen(0, 1), 1);
        x.sheet(1, 1, 2);
        x.mark(1, 0, NONE);
        x.mark(1, 1, -99999);
        // -99999 is 21 above a round; behind 1 HOUR they are at 29 and 3.
        due("22: numbers alone", x.seen(1, 1), 8);
        x.sheet(2, 0, 0);
        due("22: no places", x.seen(2, 0), 0);
        due("22: no places", x.seen(2, 1), 0);
        x.sheet(2, 0, 1);
        x.mark(2, 0, 6);
        due("22: behind 0 hours", x.seen(2, 0), 1);
        due("22: behind 0 hours", x.seen(2, 1), 2);
        x.sweep(0);
        x.sheet(0, 0, 1);
        x.mark(0, 0, 28);
        due("22: a gone one too", x.seen(0, 0), 0);
        due("22: missing", x.seen(3, 0), NOTHING);
        due("22: sheet", x.seen(-1, 0), BAD);
        due("22: sheet", x.seen(4, 0), BAD);
        due("22: what ahead of missing", x.seen(3, 2), BAD);
        WreckSky none = new WreckSky();
        due("22: missing ahead of none", none.seen(0, 0), NOTHING);
        none.sheet(0, 0, 1);
        due("22: no wrecks", none.seen(0, 0), NONE);
        due("22: no wrecks", none.seen(0, 1), NONE);
    }

    private static void fee() {
        WreckSky x = with(0, 0, 0, 0, 9, 0, 0, 0, 0, 9, 0, 0, 15, 0, 1);
        x.hours(1);
        due("23: broken without a text", x.fee(), 1);
        due("23: text", Due.text(x, "fee b*100+u*10+7"), 0);
        due("23: by text", x.fee(), 107);
        x.drag(100);
        for (int i = 0; i < 60 && x.sky(1) == 0; i++) {
            x.hours(1);
        }
        due("23: burnt too", x.fee(), x.sky(0) * 100 + x.sky(1) * 10 + 7);
        Due.text(x, "fee 0-9999");
        due("23: the last one, not held", x.fee(), -9999);
    }

    private static void fine() {
        WreckSky x = with(0, 0, 7, 3, 9);
        due("24: mass without a text", x.fine(0), 9);
        Due.text(x, "fine m*100-p");
        due("24: by text", x.fine(0), 893);
        x.sweep(0);
        due("24: of a gone one", x.fine(0), 893);
        due("24: wreck", x.fine(1), BAD);
        due("24: wreck", x.fine(-1), BAD);
    }

    private static void feed() {
        WreckSky x = new WreckSky();
        // "fee " "1234" "+5  "
        due("25: twelve", x.feed(0x66656520, 0x31323334, 0x2b352020), 12);
        due("25: the text", x.text(), 0);
        due("25: the highest byte first", x.fee(), 1239);
        for (int i = 1; i <= 8; i++) {
            due("25: more", x.feed(-1, 0, LOW), 12 * i);
        }
        due("25: full", x.feed(0, 0, 0), FULL);
        due("25: as it was", x.count(6), 96);
        x.trim(85);
        due("25: full", x.feed(0, 0, 0), FULL);
        x.trim(84);
        due("25: just so", x.feed(0, 0, 0), 96);
    }

    private static void trim() {
        WreckSky x = new WreckSky();
        due("26: nothing", x.trim(0), 0);
        due("26: above", x.trim(1), BAD);
        x.feed(0x66656520, 0x31323334, 0x35363738);
        due("26: above", x.trim(13), BAD);
        due("26: below", x.trim(-1), BAD);
        due("26: all", x.trim(12), 12);
        due("26: fewer", x.trim(6), 6);
        due("26: has", x.count(6), 6);
        due("26: the first ones", x.text(), 0);
        due("26: the first ones", x.fee(), 12);
        due("26: used up", x.count(6), 0);
    }

    private static void words(String t, int want) {
        WreckSky x = new WreckSky();
        due("27: '" + t + "'", Due.text(x, t), want);
        due("27: used up by '" + t + "'", x.count(6), 0);
        due("27: texts behind '" + t + "'", x.count(4), want == 0 ? 1 : 0);
    }

    private static void textWords() {
        words("hard m", 0);
        words("  fee   b  ", 0);
        words("fine(m)", 0);
        words("fine!m", 0);
        words("hard m+h*p", 0);
        words("hard 0", 0);
        words("hard 0009", 0);
        words("fee b<u|b>u&b=u", 0);
        words("fee ((b<u)<u)<u", 0);
        words("fee ! ! ( b )", 0);
        words("fee b/0", 0);
        words("fee " + "b+".repeat(45) + "uu".substring(1), 0);
        words("fee " + "b+".repeat(45) + "u ", 0);
    }

    private static void textFaults() {
        words("", -100);
        words("   ", -103);
        words("hard", -104);
        words("hard  ", -106);
        words("hardm", -100);
        words("har m", -100);
        words("xard m", -100);
        words("hars m", -100);
        words("gee b", -100);
        words("fine", -104);
        words("fee bz", -104);
        words("fee ba", -104);
        words("fee 09", 0);
        words("fee 0z", -105);
        words("fee b`", -105);
        words("fee b{", -105);
        words("fee b:", -105);
        words("Hard m", -100);
        words("m", -100);
        words("  7 m", -102);
        words("hard1", -104);
        words("fee1234", -103);
        words("fee 12345", -104);
        words("fee b b", -106);
        words("fee 1b", -105);
        words("fee b1", -105);
        words("fee bu", -104);
        words("fee m", -104);
        words("fine h", -105);
        words("hard u", -105);
        words("fee b+", -106);
        words("fee b++b", -106);
        words("fee -b", -104);
        words("fee b)", -105);
        words("fee (b", -106);
        words("fee (b  ", -108);
        words("fee ()", -105);
        words("fee b<u<b", -107);
        words("fee b=u>b", -107);
        words("fee b<u|b<u<b", -111);
        words("fee b!", -105);
        words("fee b(u)", -105);
        words("fee (b)u", -107);
        words("fee (b)1", -107);
        words("fee b hard m", -106);
        words("fee " + (char) 9 + "b", -104);
        words("fee b" + (char) 0, -105);
        words("fee b" + (char) 255, -105);
        words("fee B", -104);
        words("fee b&&u", -106);
        words("fee b<=u", -106);
        words("fee " + "b+".repeat(46), -196);
        words("fee b" + " ".repeat(90) + "+", -196);
    }

    private static void textDepth() {
        words("fee " + "(".repeat(8) + "b" + ")".repeat(8), 0);
        words("fee " + "(".repeat(9) + "b" + ")".repeat(9), -112);
        words("fee " + "!".repeat(8) + "b", 0);
        words("fee " + "!".repeat(9) + "b", -112);
        words("fee " + "!".repeat(8) + "b+" + "!".repeat(8) + "u", 0);
        words("fee " + "!(".repeat(8) + "b" + ")".repeat(8), 0);
        words("fee " + "!(".repeat(8) + "!b", -120);
        words("fee " + "!(".repeat(8) + "b)+!b", 0 - 100 - 4 - 16 - 5);
        words("fee " + "!".repeat(8) + "(".repeat(8) + "b" + ")".repeat(8), 0);
        words("fee " + "(b)+".repeat(20) + "b", 0);
        words("fee " + "(".repeat(8) + "b)+(u)" + ")".repeat(7), 0);
        words("fee " + "(".repeat(8) + "b)+((u", -100 - 4 - 8 - 4);
    }

    private static void value(String e, int want) {
        WreckSky x = new WreckSky();
        due("27: text " + e, Due.text(x, "fee " + e), 0);
        due("27: value of " + e, x.fee(), want);
    }

    private static void textValues() {
        value("7-2-1", 4);
        value("100/7/2", 7);
        value("2+3*4", 14);
        value("(2+3)*4", 20);
        value("(0-7)/2", -3);
        value("5/0", 0);
        value("0/0", 0);
        value("9999*9999*9999", (int) (99980001L * 9999L));
        value("1<2", 1);
        value("2<1", 0);
        value("2<2", 0);
        value("2=2", 1);
        value("2=3", 0);
        value("3>2", 1);
        value("2>2", 0);
        value("1+1=2", 1);
        value("5&3", 1);
        value("5&0", 0);
        value("0|0", 0);
        value("0|7", 1);
        value("1|1&0", 1);
        value("(1|1)&0", 0);
        value("0&1|1", 1);
        value("!5", 0);
        value("!0", 1);
        value("!!7", 1);
        value("!0+5", 6);
        value("!(0+5)", 0);
        value("7", 7);
        value("(7)", 7);
        value("1=1&2=2", 1);
        value("3>2>1".substring(0, 3) + "|0", 1);
        WreckSky x = with(0, 6, 5, -4, 30);
        Due.text(x, "hard m*10+h-p");
        due("27: hard by m, h, p", x.told(0, 6), 310);
        Due.text(x, "hard m*100");
        due("27: held at 999", x.told(0, 6), 999);
        x.turns(0, 1);
        due("27: and 10", x.told(0, 6), 1009);
        Due.text(x, "hard 0-1");
        due("27: held at 0", x.told(0, 6), 10);
        // By this TEXT the lighter one is harder.
        WreckSky y = with(0, 0, 0, 0, 50, 0, 0, 0, 0, 4);
        Due.text(y, "hard 99-m");
        y.hours(1);
        due("27: the law counts when they meet", y.told(0, 4), 25);
        due("27: the law counts when they meet", y.told(1, 4), 4);
    }

    private static void textFull() {
        WreckSky x = new WreckSky();
        for (int i = 0; i < 14; i++) {
            due("27: texts", Due.text(x, "fee " + i), i);
        }
        due("27: full", Due.text(x, "fee 99"), FULL);
        due("27: used up all the same", x.count(6), 0);
        due("27: fault ahead of full", Due.text(x, "fee"), -103);
        due("27: the last that was told", x.fee(), 13);
    }

    private static void textTold() {
        WreckSky x = new WreckSky();
        Due.text(x, "fine m");
        Due.text(x, "fee (b+1)*b-!0&1234");
        Due.text(x, "hard m=h|p");
        int[] keys = {2, 1, 0};
        int[] many = {1, 5, 3};
        for (int i = 0; i < 3; i++) {
            due("28: key", x.textTold(i, 0), keys[i]);
            due("28: numbers and names", x.textTold(i, 1), many[i]);
        }
        due("28: text", x.textTold(3, 0), BAD);
        due("28: text", x.textTold(-1, 0), BAD);
        due("28: what", x.textTold(0, 2), BAD);
        due("28: what", x.textTold(0, -1), BAD);
    }

    private static void why() {
        WreckSky x = new WreckSky();
        Due.text(x, "fine m");
        due("29: the first", x.why(2), 0);
        Due.text(x, "fee b");
        Due.text(x, "fine p");
        due("29: none", x.why(0), NONE);
        due("29: one", x.why(1), 1);
        due("29: the last", x.why(2), 2);
        due("29: key", x.why(-1), BAD);
        due("29: key", x.why(3), BAD);
    }

    private static void sheet() {
        WreckSky x = new WreckSky();
        due("30: n", x.sheet(0, 0, 24), 24);
        due("30: none", x.sheet(1, 1, 0), 0);
        due("30: above", x.sheet(0, 0, 25), BAD);
        due("30: below", x.sheet(0, 0, -1), SIZE);
        due("30: far below", x.sheet(0, 1, LOW), SIZE);
        due("30: sort", x.sheet(0, 2, 1), BAD);
        due("30: sort", x.sheet(0, -2, 1), BAD);
        due("30: bad ahead of size", x.sheet(0, 2, -1), BAD);
        due("30: sheet", x.sheet(4, 0, 1), BAD);
        due("30: sheet", x.sheet(-1, 0, -1), BAD);
        due("30: it stays", x.mark(0, 23, 5), 1);
        due("30: missing, n any", x.sheet(0, -1, HIGH), 0);
        due("30: missing, n any", x.sheet(0, -1, LOW), 0);
        due("30: missing", x.mark(0, 23, 5), NOTHING);
        x.sheet(0, 0, 24);
        x.lay(0, 2, 0);
        due("30: all 0", x.item(0, 23), 0);
    }

    private static int cell(WreckSky x, int sheet, int place) {
        x.lay(4, 2, sheet);
        return x.item(4, place);
    }

    private static void mark() {
        WreckSky x = new WreckSky();
        x.sheet(0, 0, 3);
        x.sheet(1, 1, 3);
        due("31: short", x.mark(0, 0, 32767), 1);
        due("31: is", cell(x, 0, 0), 32767);
        x.mark(0, 0, 32768);
        due("31: lowest 16 bits", cell(x, 0, 0), -32768);
        x.mark(0, 1, LOW + 65535);
        due("31: lowest 16 bits", cell(x, 0, 1), -1);
        due("31: NONE in shorts", x.mark(0, 0, NONE), KIND);
        due("31: it stays", cell(x, 0, 0), -32768);
        due("31: float", x.mark(1, 0, 99999), 1);
        due("31: is", cell(x, 1, 0), 99999);
        due("31: float", x.mark(1, 0, -99999), 1);
        due("31: is", cell(x, 1, 0), -99999);
        due("31: above", x.mark(1, 0, 100000), BAD);
        due("31: below", x.mark(1, 0, -100000), BAD);
        due("31: it stays", cell(x, 1, 0), -99999);
        due("31: no number", x.mark(1, 0, NONE), 1);
        due("31: is none", cell(x, 1, 0), KIND);
        due("31: place", x.mark(0, 3, 0), INDEX);
        due("31: place", x.mark(0, -1, 0), INDEX);
        due("31: place ahead of kind", x.mark(0, 3, NONE), INDEX);
        due("31: place ahead of v", x.mark(1, 3, HIGH), INDEX);
        due("31: missing ahead of place", x.mark(2, -1, HIGH), NOTHING);
        due("31: sheet", x.mark(4, 0, 0), BAD);
        due("31: sheet", x.mark(-1, 0, 0), BAD);
    }

    private static void pour() {
        WreckSky x = with(0, 0, 0, 0, 10, 0, 0, 1, 0, 20, 0, 0, 2, 0, 30, 0, 0, 3, 0, 40, 0, 0, 4, 0, 50);
        x.sheet(0, 1, 4);
        x.mark(0, 0, 10);
        x.mark(0, 1, NONE);
        x.mark(0, 2, -5);
        x.mark(0, 3, 5000);
        due("32: two are otherwise", x.pour(0), 2);
        int[] masses = {10, 20, 1, 99, 50};
        for (int i = 0; i < 5; i++) {
            due("32: mass", x.told(i, 4), masses[i]);
        }
        x.sheet(1, 0, 24);
        due("32: more places than wrecks", x.pour(1), 4);
        due("32: no sheet of places", x.pour(1), 0);
        x.sheet(2, 0, 0);
        due("32: none", x.pour(2), 0);
        due("32: missing", x.pour(3), NOTHING);
        due("32: sheet", x.pour(4), BAD);
        due("32: sheet", x.pour(-1), BAD);
    }

    private static void reads() {
        WreckSky x = with(0, 0, 7, 0, 10, 0, 0, 0, 0, 20);
        x.sheet(0, 1, 3);
        due("33: the first", x.reads(0), 0);
        x.mark(0, 0, 7);
        due("33: no wreck there", x.reads(0), 2);
        x.mark(0, 2, NONE);
        due("33: none", x.reads(0), NONE);
        x.mark(0, 0, NONE);
        x.mark(0, 1, 30);
        due("33: numbers alone, not by rests", x.reads(0), 1);
        x.sheet(1, 0, 0);
        due("33: no places", x.reads(1), NONE);
        due("33: missing", x.reads(3), NOTHING);
        due("33: sheet", x.reads(4), BAD);
        due("33: sheet", x.reads(-1), BAD);
    }

    private static void copy() {
        WreckSky x = new WreckSky();
        x.sheet(0, 0, 5);
        x.sheet(1, 0, 3);
        x.sheet(2, 1, 3);
        for (int i = 0; i < 5; i++) {
            x.mark(0, i, i + 1);
        }
        due("34: to another", x.copy(0, 2, 1, 1, 2), 2);
        due("34: it stays", cell(x, 1, 0), 0);
        due("34: came", cell(x, 1, 1), 3);
        due("34: came", cell(x, 1, 2), 4);
        due("34: to the same, as they were", x.copy(0, 0, 0, 1, 4), 4);
        int[] up = {1, 1, 2, 3, 4};
        for (int i = 0; i < 5; i++) {
            due("34: shifted", cell(x, 0, i), up[i]);
        }
        x.copy(0, 1, 0, 0, 4);
        due("34: back", cell(x, 0, 3), 4);
        due("34: none at the end", x.copy(0, 5, 1, 3, 0), 0);
        due("34: behind the end", x.copy(0, 6, 1, 0, 0), INDEX);
        due("34: too many", x.copy(0, 2, 1, 0, 4), INDEX);
        due("34: too many there", x.copy(0, 0, 1, 1, 3), INDEX);
        due("34: below", x.copy(0, -1, 1, 0, 1), INDEX);
        due("34: below there", x.copy(0, 0, 1, -1, 1), INDEX);
        due("34: fewer than none", x.copy(0, 0, 1, 0, -1), INDEX);
        due("34: sums that wrap", x.copy(0, HIGH, 1, HIGH, HIGH), INDEX);
        due("34: kind ahead of index", x.copy(0, -1, 2, 0, 1), KIND);
        due("34: missing ahead of kind", x.copy(3, 0, 2, 0, 1), NOTHING);
        due("34: missing there", x.copy(0, 0, 3, 0, 1), NOTHING);
        due("34: bad ahead of missing", x.copy(3, 0, 4, 0, 1), BAD);
        due("34: from", x.copy(-1, 0, 0, 0, 1), BAD);
        x.sheet(3, 1, 2);
        x.mark(2, 1, NONE);
        x.copy(2, 0, 3, 0, 2);
        due("34: no number comes too", cell(x, 3, 1), KIND);
    }

    private static void lay() {
        WreckSky x = with(0, 0, 7, 0, 10);
        x.sheet(0, 0, 1);
        due("35: nothing", x.lay(0, 1, 0), 0);
        due("35: a wreck", x.lay(0, 2, 0), 1);
        due("35: a sheet", x.lay(0, 3, LOW), 2);
        due("35: a number", x.lay(0, 0, LOW), 3);
        due("35: nothing again", x.lay(0, 0, 0), 0);
        due("35: slot", x.lay(5, 0, 0), BAD);
        due("35: slot", x.lay(-1, 0, 0), BAD);
        due("35: thing", x.lay(0, 4, 0), BAD);
        due("35: thing", x.lay(0, -1, 0), BAD);
        due("35: wreck", x.lay(0, 1, 1), BAD);
        due("35: wreck", x.lay(0, 1, -1), BAD);
        due("35: sheet", x.lay(0, 2, 4), BAD);
        due("35: sheet", x.lay(0, 2, -1), BAD);
        due("35: missing", x.lay(0, 2, 1), NOTHING);
        due("35: it holds nothing still", x.item(0, 0), NOTHING);
        x.lay(1, 2, 0);
        x.mark(0, 0, 77);
        due("35: a row of its own", x.item(1, 0), 0);
        x.sheet(0, -1, 0);
        due("35: a row of its own", x.item(1, 0), 0);
        x.keep();
        x.lay(2, 3, 6);
        x.back();
        due("35: slots are not in the image", x.rest(2, 100), 6);
    }

    private static void ask() {
        WreckSky x = with(3, 0, 7, 0, 10, 5, 0, 8, 0, 10);
        x.lay(0, 1, 0);
        x.lay(1, 1, 1);
        x.lay(2, 3, 0);
        due("36: worth", x.ask(0, 3), 38);
        due("36: as one above", x.ask(0, 1), 38);
        due("36: as a wreck", x.ask(0, 0), 38);
        due("36: no bolt", x.ask(0, 2), KIND);
        due("36: no owned one", x.ask(1, 3), KIND);
        due("36: dead", x.ask(1, 5), 2);
        x.set(0, 4, 99);
        x.turns(0, 0);
        due("36: as it was", x.ask(0, 3), 38);
        due("36: a number", x.ask(2, 0), KIND);
        due("36: nothing", x.ask(3, 0), NOTHING);
        due("36: bad ahead of nothing", x.ask(3, 6), BAD);
        due("36: kind", x.ask(0, -1), BAD);
        due("36: slot", x.ask(5, 0), BAD);
        due("36: slot", x.ask(-1, 0), BAD);
    }

    private static void item() {
        WreckSky x = with(3, 0, 7, 0, 10);
        x.sheet(0, 1, 2);
        x.mark(0, 0, NONE);
        x.mark(0, 1, -12345);
        x.lay(0, 2, 0);
        x.lay(1, 1, 0);
        due("37: a number", x.item(0, 1), -12345);
        due("37: no number", x.item(0, 0), KIND);
        due("37: place", x.item(0, 2), INDEX);
        due("37: place", x.item(0, -1), INDEX);
        due("37: a wreck", x.item(1, 9), KIND);
        due("37: nothing", x.item(2, 9), NOTHING);
        due("37: slot", x.item(5, 0), BAD);
        due("37: slot", x.item(-1, 0), BAD);
    }

    private static void rest() {
        WreckSky x = with(3, 0, 7, 0, 10);
        x.lay(0, 3, -17);
        x.lay(1, 1, 0);
        due("38: below 0", x.rest(0, 5), -2);
        due("38: by one below 0", x.rest(0, -5), -2);
        due("38: by 0", x.rest(0, 0), NO);
        x.lay(0, 3, LOW);
        due("38: the least by -1", x.rest(0, -1), 0);
        due("38: by the least", x.rest(0, LOW), 0);
        due("38: kind ahead of no", x.rest(1, 0), KIND);
        due("38: nothing ahead of no", x.rest(2, 0), NOTHING);
        due("38: slot", x.rest(5, 1), BAD);
        due("38: slot", x.rest(-1, 0), BAD);
    }

    private static void tell() {
        WreckSky x = new WreckSky();
        for (int i = 1; i <= 60; i++) {
            due("39: waits", x.tell(-i), i);
        }
        due("39: full", x.tell(0), FULL);
        due("39: wait", x.count(5), 60);
    }

    private static void check() {
        // Two that meet behind 1 HOUR; then three go, from 5, 5, 5 by 1, 0 and 1 (a BOLT of PACE 1: 2).
        WreckSky x = with(0, 0, 4, 1, 50, 0, 0, 5, 0, 8);
        due("40: no image", x.check(1), NO);
        x.keep();
        x.tell(1);
        x.tell(15);
        due("40: one hour", x.check(1), 0);
        due("40: none wait then", x.count(5), 0);
        x.tell(1);
        x.tell(15);
        x.tell(1);
        x.tell(6 + 5 + 7);
        due("40: two hours", x.check(2), 0);
        x.tell(1);
        x.tell(15);
        due("40: one is missing", x.check(2), 3);
        x.tell(1);
        due("40: the other is missing", x.check(1), 2);
        due("40: all are missing", x.check(30), 1);
        x.tell(1);
        x.tell(15);
        x.tell(1);
        due("40: one too many", x.check(1), 3);
        x.tell(0);
        x.tell(15);
        due("40: the first is not", x.check(1), 1);
        x.tell(1);
        x.tell(16);
        x.tell(9);
        due("40: the second is not", x.check(1), 2);
        x.tell(1);
        due("40: n", x.check(0), BAD);
        due("40: none wait then", x.count(5), 0);
        x.tell(1);
        due("40: n", x.check(31), BAD);
        due("40: none wait then", x.count(5), 0);
        x.hours(5);
        x.sweep(0);
        x.tell(1);
        x.tell(15);
        due("40: by the image, not by what is", x.check(1), 0);
        due("40: nothing changes", x.count(1), 5);
        WreckSky none = new WreckSky();
        none.tell(4);
        due("40: no image", none.check(1), NO);
        due("40: none wait then", none.count(5), 0);
        due("40: bad ahead of no", none.check(0), BAD);
        // BROKEN are those of all HOURS up to then, also ahead of the image.
        x.keep();
        int broken = x.sky(0);
        int sum = x.behind(1, 4) + x.behind(1, 5);
        due("40: broken before", broken > 0 ? 1 : 0, 1);
        x.tell(x.behind(1, 0));
        x.tell(sum);
        due("40: all hours count", x.count(0) == 3 ? x.check(1) : 0, 0);
    }

    private static void checkAtTheEnd() {
        WreckSky x = with(0, 0, 0, 1, 50);
        for (int i = 0; i < 99; i++) {
            x.hours(100);
        }
        x.hours(98);
        x.keep();
        x.tell(0);
        x.tell(9999 % 30);
        due("40: fewer, up to 9999", x.check(30), 0);
        x.hours(1);
        x.keep();
        due("40: none at 9999", x.check(30), 0);
        x.tell(0);
        due("40: one too many at 9999", x.check(30), 1);
    }

    private static void keepAndBack() {
        WreckSky x = with(0, 0, 4, 1, 50, 0, 0, 5, 0, 8);
        due("42: no image", x.back(), NO);
        x.drag(30);
        x.seed(77);
        x.hours(2);
        Due.text(x, "fee 5");
        x.sweep(1);
        due("41: keep", x.keep(), 3);
        int[] before = all(x);
        for (int round = 0; round < 2; round++) {
            x.drag(99);
            x.hours(40);
            x.deal(14);
            x.sweep(13);
            x.seed(3);
            x.turns(0, 5);
            Due.text(x, "fee 6");
            Due.text(x, "hard 6");
            x.sheet(0, 0, 2);
            x.tell(4);
            x.feed(1, 2, 3);
            due("42: back", x.back(), 3);
            int[] behind = all(x);
            for (int i = 0; i < before.length; i++) {
                due("42: as it was, " + i, behind[i], before[i]);
            }
            due("42: sheets stay", x.mark(0, 1, 1), 1);
            due("42: numbers stay", x.count(5), 1 + round);
            due("42: the tape stays", x.count(6), 12);
        }
        due("42: room for texts again", Due.text(x, "fee 7"), 1);
        due("42: the image stays", x.back(), 3);
        due("42: by the text of then", x.fee(), 5);
    }

    private static void lawsOfThen() {
        WreckSky x = with(0, 0, 0, 0, 50, 0, 0, 28, 2, 4);
        x.keep();
        Due.text(x, "hard 99-m");
        due("42: thought by one law", x.best(1, 1) + x.behind(1, 0), 1);
        x.hours(1);
        due("42: by one law", x.told(0, 4), 25);
        x.back();
        Due.text(x, "hard m");
        x.keep();
        x.hours(1);
        due("42: by another law", x.told(1, 4), 2);
        due("42: under its number", x.why(0), 0);
        x.back();
        Due.text(x, "hard 99-m");
        x.tell(1);
        x.tell(0);
        x.tell(1);
        // By the law of the IMAGE 1 breaks: it goes on by 2, and what broke off, with PACE 3, by 4.
        x.tell(6);
        due("40: by the law of the image", x.check(2), 0);
    }

    private static int[] all(WreckSky x) {
        int[] found = new int[14 * 9 + 6 + 5 + 4];
        int at = 0;
        for (int i = 0; i < 14; i++) {
            for (int what = 0; what < 9; what++) {
                found[at++] = x.told(i, what);
            }
        }
        for (int what = 0; what < 6; what++) {
            found[at++] = x.sky(what);
        }
        for (int what = 0; what < 5; what++) {
            found[at++] = x.count(what);
        }
        found[at++] = x.count(7);
        for (int key = 0; key < 3; key++) {
            found[at++] = x.why(key);
        }
        return found;
    }

    private static void count() {
        WreckSky x = with(0, 0, 4, 1, 50, 0, 0, 6, 0, 8);
        x.sweep(1);
        x.drag(9);
        x.hours(3);
        x.seed(-5);
        Due.text(x, "fee 5");
        x.tell(1);
        x.tell(2);
        x.tell(2);
        x.feed(0, 0, 0);
        int[] want = {2, 3, 9, 1, 1, 3, 12, -5};
        for (int what = 0; what < 8; what++) {
            due("43: what " + what, x.count(what), want[what]);
        }
        due("43: what", x.count(-1), BAD);
        due("43: what", x.count(8), BAD);
    }
}

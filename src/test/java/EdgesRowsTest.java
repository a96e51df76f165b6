/**
 * The boundary cases of promises 39 to 43, of what the document says of every call, and of its 512 calls: a method for
 * each sentence that names one, with the promise's number in its name and the sentence above it.
 */
public final class EdgesRowsTest {
    private static final int BAD = Edge.BAD, NO = Edge.NO, FULL = Edge.FULL, NONE = Edge.NONE, LOW = Edge.LOW, HIGH = Edge.HIGH;
    private static final Edge EDGE = new Edge("EdgesRowsTest");

    public static void main(String[] args) {
        promise39SixtyWait();
        promise39AnyNumber();
        promise40Numbers();
        promise40NoneWaitThen();
        promise40NoImage();
        promise40TheFirstThatIsNot();
        promise40Missing();
        promise40OneTooMany();
        promise40SixtyNumbers();
        promise40FewerUpTo9999();
        promise40ByTheImage();
        promise41EmptyAndFull();
        promise41Again();
        promise42NoImage();
        promise42AllIsAsTheImage();
        promise42WhatStays();
        promise42AgainAndAgain();
        promise43Whats();
        promise43EmptyAndFull();
        everyPromise512Calls();
        everyPromiseObjectsApart();
        EDGE.end();
    }

    private static void is(String what, int got, int want) {
        EDGE.is(what, got, want);
    }

    private static WreckSky waiting(int many) {
        WreckSky x = Edge.with(0, 0, 0, 0, 5);
        x.keep();
        for (int i = 0; i < many; i++) {
            x.tell(i);
        }
        return x;
    }

    // ---- promise 39

    // "One more number waits: how many. FULL: 60 wait."
    private static void promise39SixtyWait() {
        WreckSky x = new WreckSky();
        for (int i = 1; i <= 60; i++) {
            is("39: how many", x.tell(7), i);
        }
        is("39: a 61st", x.tell(7), FULL);
        is("39: a 61st again", x.tell(7), FULL);
        is("39: sixty", x.count(5), 60);
        EDGE.leaves("39: full", () -> waiting(60), y -> y.tell(0), FULL);
        x.check(1);
        is("39: room again", x.tell(7), 1);
    }

    // Any number waits, also one that looks like a refusal.
    private static void promise39AnyNumber() {
        WreckSky x = new WreckSky();
        int many = 0;
        for (int v : new int[] {LOW, HIGH, 0, -1, BAD, NONE, FULL}) {
            is("39: " + v, x.tell(v), ++many);
        }
    }

    // ---- promise 40

    /** One WRECK that stands at PLACE 7, an IMAGE of it, and the HOURS TOLD of n. */
    private static WreckSky standing(int n) {
        WreckSky x = Edge.with(0, 3, 7, 0, 5);
        x.keep();
        for (int i = 0; i < n; i++) {
            x.tell(0);
            x.tell(7);
        }
        return x;
    }

    // "THE HOURS TOLD of n (1 .. 30 ...)"; "BAD".
    private static void promise40Numbers() {
        is("40: one", standing(1).check(1), 0);
        is("40: thirty", standing(30).check(30), 0);
        is("40: what the others start from", Edge.rich().check(2), 0);
        for (int n : new int[] {0, 31, -1, LOW, HIGH}) {
            EDGE.leavesBut("40: n " + n, Edge::rich, x -> x.check(n), BAD, y -> y.check(1));
        }
    }

    // "(none do then, whatever is answered)".
    private static void promise40NoneWaitThen() {
        int[][] calls = {{3, 0}, {3, 31}, {1, 1}, {1, 2}, {2, 1}, {30, 30}, {0, 1}};
        for (int[] c : calls) {
            WreckSky x = standing(c[0]);
            x.check(c[1]);
            is("40: none wait then", x.count(5), 0);
            is("40: and one is the first", x.tell(1), 1);
        }
        WreckSky none = new WreckSky();
        none.tell(5);
        none.check(1);
        is("40: none wait without an image", none.count(5), 0);
        EDGE.leavesBut("40: right", Edge::rich, x -> x.check(2), 0, y -> y.check(0));
        EDGE.leavesBut("40: not right", Edge::rich, x -> x.check(1), 3, y -> y.check(0));
    }

    // "BAD; NO: there is no IMAGE."
    private static void promise40NoImage() {
        WreckSky x = new WreckSky();
        is("40: no image", x.check(1), NO);
        is("40: no image", x.check(30), NO);
        is("40: bad ahead of no", x.check(0), BAD);
        is("40: bad ahead of no", x.check(31), BAD);
        Edge.Maker maker = () -> {
            WreckSky y = Edge.with(0, 0, 0, 0, 5);
            y.tell(1);
            return y;
        };
        EDGE.leavesBut("40: no image", maker, y -> y.check(1), NO, y -> y.check(0));
        x.keep();
        is("40: an image of an empty sky", x.check(1), 1);
        x.tell(0);
        x.tell(0);
        is("40: an image of an empty sky", x.check(1), 0);
    }

    // "else 1 and how many stand right ahead of the first that is not".
    private static void promise40TheFirstThatIsNot() {
        for (int wrong = 0; wrong < 6; wrong++) {
            WreckSky x = standing(0);
            for (int i = 0; i < 6; i++) {
                x.tell((i % 2 == 0 ? 0 : 7) + (i == wrong ? 1 : 0));
            }
            is("40: the one behind " + wrong, x.check(3), 1 + wrong);
        }
        WreckSky two = standing(0);
        two.tell(0);
        two.tell(8);
        two.tell(1);
        two.tell(7);
        is("40: the first of two", two.check(2), 2);
    }

    // "(or is missing ...)".
    private static void promise40Missing() {
        for (int told = 0; told < 6; told++) {
            WreckSky x = standing(told / 2);
            if (told % 2 == 1) x.tell(0);
            is("40: missing behind " + told, x.check(3), 1 + told);
        }
        for (int told = 0; told < 2; told++) {
            WreckSky before = standing(1);
            before.check(1);
            if (told == 1) before.tell(0);
            is("40: those of before wait no more", before.check(1), 1 + told);
        }
        is("40: all of thirty are missing", standing(0).check(30), 1);
        is("40: the last of thirty", standing(29).check(30), 59);
    }

    // "(... or one too many)".
    private static void promise40OneTooMany() {
        WreckSky one = standing(1);
        one.tell(0);
        is("40: one too many", one.check(1), 3);
        is("40: two too many", standing(2).check(1), 3);
        is("40: many too many", standing(30).check(1), 3);
        WreckSky wrong = standing(0);
        wrong.tell(0);
        wrong.tell(9);
        wrong.tell(0);
        is("40: one that is not, ahead of one too many", wrong.check(1), 2);
    }

    // "two by two", 60 numbers for 30 HOURS: the last of them counts.
    private static void promise40SixtyNumbers() {
        WreckSky x = standing(29);
        x.tell(0);
        x.tell(8);
        is("40: the sixtieth is not", x.check(30), 60);
        WreckSky y = standing(29);
        y.tell(1);
        y.tell(7);
        is("40: the fifty-ninth is not", y.check(30), 59);
        WreckSky z = standing(29);
        z.tell(0);
        is("40: the sixtieth is missing", z.check(30), 60);
        is("40: one hour too many", standing(30).check(29), 59);
    }

    // "(1 .. 30; fewer, if THE HOUR would be above 9999)".
    private static void promise40FewerUpTo9999() {
        for (int left : new int[] {0, 1, 2, 29, 30}) {
            WreckSky x = Edge.at(9999 - left, Edge.with(0, 3, 7, 0, 5));
            x.keep();
            for (int i = 0; i < left; i++) {
                x.tell(0);
                x.tell(7);
            }
            is("40: all that are left, " + left, x.check(30), 0);
            is("40: " + left + " are left", x.check(30), left == 0 ? 0 : 1);
            if (left > 29) continue;
            for (int i = 0; i <= left; i++) {
                x.tell(0);
                x.tell(7);
            }
            is("40: no more than are left, " + left, x.check(30), 1 + 2 * left);
        }
        // THE HOUR is that of the IMAGE, not that of now.
        WreckSky late = standing(2);
        Edge.at(9999, late);
        is("40: by the image's hour", late.check(2), 0);
        WreckSky early = Edge.with(0, 3, 7, 0, 5);
        early.keep();
        Edge.at(9999, early);
        early.keep();
        is("40: bad at 9999", early.check(31), BAD);
        is("40: none at 9999", early.check(1), 0);
    }

    // "THE HOURS TOLD: of n HOURS ... by THE IMAGE: BROKEN; PLACES of all that are UP, together, behind each."
    private static void promise40ByTheImage() {
        WreckSky x = Edge.with(0, 3, 29, 1, 5, 0, 2, 9, 0, 5);
        x.sweep(1);
        x.keep();
        x.wreck(0, 7, 20, 0, 5);
        x.tell(0);
        x.tell(0);
        x.tell(0);
        x.tell(1);
        is("40: up alone, and round", x.check(2), 0);
        WreckSky broken = Edge.with(0, 0, 4, 0, 5, 0, 0, 4, 0, 1);
        broken.hours(1);
        broken.keep();
        broken.tell(1);
        broken.tell(4);
        is("40: broken ahead of the image too", broken.check(1), 0);
        WreckSky none = Edge.with(0, 0, 4, 0, 5);
        none.sweep(0);
        none.keep();
        none.tell(0);
        none.tell(0);
        is("40: none is up", none.check(1), 0);
    }

    // ---- promise 41

    // "AN IMAGE is kept: how many WRECKS."
    private static void promise41EmptyAndFull() {
        is("41: none", new WreckSky().keep(), 0);
        is("41: fourteen", Edge.crowded().keep(), 14);
        WreckSky gone = Edge.with(0, 0, 0, 0, 5);
        gone.sweep(0);
        is("41: a gone one too", gone.keep(), 1);
    }

    // One IMAGE alone: a later one stands for it.
    private static void promise41Again() {
        WreckSky x = new WreckSky();
        x.keep();
        x.wreck(0, 0, 0, 0, 5);
        is("41: again", x.keep(), 1);
        x.wreck(0, 0, 0, 0, 5);
        is("42: the later one", x.back(), 1);
        is("42: one", x.count(0), 1);
    }

    // ---- promise 42

    // "NO: there is none."
    private static void promise42NoImage() {
        is("42: at first", new WreckSky().back(), NO);
        Edge.Maker maker = () -> {
            WreckSky x = Edge.with(0, 0, 0, 0, 5);
            x.drag(7);
            x.tell(1);
            x.sheet(0, 0, 2);
            Due.tape(x, "fee 5");
            return x;
        };
        EDGE.leaves("42: no image", maker, x -> x.back(), NO);
    }

    // "All is as THE IMAGE: how many WRECKS."
    private static void promise42AllIsAsTheImage() {
        WreckSky x = new WreckSky();
        x.keep();
        x.seed(LOW);
        x.deal(14);
        x.drag(100);
        for (int i = 0; i < 14; i++) {
            Due.text(x, "fee " + i);
        }
        x.hours(100);
        x.set(0, 5, 1);
        x.sweep(0);
        is("42: to an empty sky", x.back(), 0);
        for (int what = 0; what < 5; what++) {
            is("42: count " + what, x.count(what), 0);
        }
        is("42: z", x.count(7), 1);
        for (int what = 0; what < 6; what++) {
            is("42: sky " + what, x.sky(what), 0);
        }
        is("42: no wrecks", x.told(0, 0), BAD);
        is("42: no texts", x.textTold(0, 0), BAD);
        is("42: no law", x.why(1), NONE);
        is("42: room for wrecks", x.deal(14), 14);
        is("42: room for texts", Due.text(x, "fee 3"), 0);
        WreckSky full = Edge.crowded();
        full.keep();
        full.hours(100);
        is("42: to a full sky", full.back(), 14);
        is("42: full again", full.wreck(0, 0, 0, 0, 1), FULL);
        WreckSky lawful = Edge.with(0, 0, 0, 0, 5);
        for (int i = 0; i < 14; i++) {
            Due.text(lawful, "fee " + i);
        }
        lawful.keep();
        is("42: to fourteen texts", lawful.back(), 1);
        is("42: fourteen texts", lawful.count(4), 14);
        is("42: the last of them", lawful.fee(), 13);
        is("14: thought with fourteen texts", lawful.behind(1, 2), 1);
        WreckSky late = Edge.at(9999, Edge.with(0, 0, 0, 0, 5));
        late.keep();
        late.back();
        is("42: at 9999", late.count(1), 9999);
        WreckSky early = new WreckSky();
        early.keep();
        Edge.at(9999, early);
        early.back();
        early.hours(1);
        is("42: hours go again", early.count(1), 1);
    }

    // "AN IMAGE keeps all but SHEETS, SLOTS, numbers that wait, THE TAPE".
    private static void promise42WhatStays() {
        WreckSky x = Edge.with(0, 0, 0, 0, 5);
        x.keep();
        x.sheet(0, 0, 2);
        x.mark(0, 1, 9);
        x.lay(0, 1, 0);
        x.lay(1, 2, 0);
        x.lay(2, 3, 8);
        x.tell(1);
        Due.tape(x, "fee 5");
        x.back();
        is("42: the sheet stays", x.copy(0, 1, 0, 0, 1), 1);
        is("42: its size stays", x.mark(0, 2, 0), Edge.INDEX);
        is("42: the wreck in a slot", x.ask(0, 0), 5);
        is("42: the sheet in a slot", x.item(1, 1), 9);
        is("42: the number in a slot", x.rest(2, 10), 8);
        is("42: a number waits", x.count(5), 1);
        is("42: the tape", x.text(), 0);
        is("42: the tape", x.fee(), 5);
    }

    // "all can become as it is (again and again)".
    private static void promise42AgainAndAgain() {
        WreckSky x = Edge.rich();
        x.hours(3);
        x.keep();
        int z = x.count(7);
        int place = x.told(0, 2);
        for (int i = 0; i < 5; i++) {
            x.hours(7);
            x.set(0, 4, 1 + i);
            x.sweep(1);
            is("42: again", x.back(), 5);
            is("42: z again", x.count(7), z);
            is("42: place again", x.told(0, 2), place);
            is("42: mass again", x.told(0, 4), 10);
            is("42: up again", x.told(1, 5), 1);
            is("42: the hour again", x.count(1), 4);
        }
        EDGE.leaves("42: twice", EdgesRowsTest::asKept, y -> y.back(), 5);
        EDGE.leaves("41: as it is", EdgesRowsTest::asKept, y -> y.keep(), 5);
    }

    private static WreckSky asKept() {
        WreckSky x = Edge.rich();
        x.back();
        return x;
    }

    // ---- promise 43

    // "0 how many WRECKS, ... 7 z. BAD."
    private static void promise43Whats() {
        EDGE.outside("43: what", 0, 7, v -> x -> x.count(v));
        for (int what = 0; what < 8; what++) {
            int w = what;
            EDGE.asks("43: asking " + what, x -> x.count(w));
        }
    }

    // Each of them at its least and at its most.
    private static void promise43EmptyAndFull() {
        WreckSky x = Edge.at(9999, Edge.crowded());
        x.drag(100);
        for (int i = 0; i < 14; i++) {
            Due.text(x, "fee 1");
        }
        for (int i = 0; i < 60; i++) {
            x.tell(i);
        }
        for (int i = 0; i < 8; i++) {
            x.feed(0, 0, 0);
        }
        x.seed(LOW);
        int[] most = {14, 9999, 100, 14, 14, 60, 96, LOW};
        for (int what = 0; what < 8; what++) {
            is("43: the most of " + what, x.count(what), most[what]);
        }
        for (int i = 0; i < 14; i++) {
            x.sweep(i);
        }
        is("43: none is up", x.count(3), 0);
        is("43: wrecks still", x.count(0), 14);
    }

    // ---- every promise

    // "An object is used for at most 512 calls after it has been made": the 512th still answers as told.
    private static void everyPromise512Calls() {
        WreckSky x = new WreckSky();
        for (int call = 1; call <= 512; call++) {
            int was = call == 1 ? 0 : (call - 1) % 101;
            is("8: call " + call, x.drag(call % 101), was);
        }
        WreckSky y = Edge.with(0, 0, 0, 0, 5);
        for (int call = 2; call <= 512; call++) {
            is("7: call " + call, call % 2 == 0 ? y.sweep(0) : y.set(0, 5, 1), call % 2 == 0 ? 5 : 0);
        }
    }

    // Objects have nothing in common.
    private static void everyPromiseObjectsApart() {
        WreckSky x = Edge.rich();
        WreckSky y = new WreckSky();
        Edge.rich();
        is("1: another object", y.count(0) + y.count(4) + y.count(5) + y.count(6) + y.sky(2), 0);
        is("1: another object", y.back(), NO);
        is("1: the first object", x.count(0), 5);
    }
}

/**
 * The boundary cases of promises 30 to 38 and of the document's part 5: a method for each sentence that names one, with
 * the promise's number in its name and the sentence above it.
 */
public final class EdgesSheetsTest {
    private static final int BAD = Edge.BAD, NO = Edge.NO, NONE = Edge.NONE, NOTHING = Edge.NOTHING, KIND = Edge.KIND;
    private static final int INDEX = Edge.INDEX, SIZE = Edge.SIZE, LOW = Edge.LOW, HIGH = Edge.HIGH;
    private static final Edge EDGE = new Edge("EdgesSheetsTest");

    public static void main(String[] args) {
        promise30Sheets();
        promise30Sorts();
        promise30Sizes();
        promise30Missing();
        promise30AllNothing();
        promise30BadStandsAheadOfSize();
        promise31Sheets();
        promise31Missing();
        promise31Places();
        promise31Shorts();
        promise31Floats();
        promise31NoNumber();
        promise31OneBehindTheOther();
        promise32Sheets();
        promise32HeldWithin();
        promise32StayAsTheyAre();
        promise32HowManyAreOtherwise();
        promise33Sheets();
        promise33Places();
        promise33NumbersAlone();
        promise33PlacesThatAreNoWreck();
        promise34Sheets();
        promise34Missing();
        promise34Sorts();
        promise34Places();
        promise34HowMany();
        promise34SumsThatWrap();
        promise34OneBehindTheOther();
        promise34AsTheyWere();
        promise35Slots();
        promise35Things();
        promise35Wrecks();
        promise35Sheets();
        promise35AnyNumber();
        promise35WhatItHeld();
        promise35AsItIsThen();
        promise36SlotsAndKinds();
        promise36NothingAndKind();
        promise36OneUnderAnother();
        promise37Slots();
        promise37NothingAndKind();
        promise37Places();
        promise38Slots();
        promise38NothingAndKind();
        promise38ByNothing();
        promise38Edges();
        EDGE.end();
    }

    private static void is(String what, int got, int want) {
        EDGE.is(what, got, want);
    }

    private static int cell(WreckSky x, int sheet, int place) {
        x.lay(4, 2, sheet);
        return x.item(4, place);
    }

    private static void marks(WreckSky x, int sheet, int... values) {
        for (int i = 0; i < values.length; i++) {
            x.mark(sheet, i, values[i]);
        }
    }

    private static void cells(String what, WreckSky x, int sheet, int... values) {
        for (int i = 0; i < values.length; i++) {
            is(what + ", place " + i, cell(x, sheet, i), values[i]);
        }
        is(what + ", behind the end", cell(x, sheet, values.length), INDEX);
    }

    // ---- promise 30

    // "SHEETS 0 .. 3"; "BAD: sheet".
    private static void promise30Sheets() {
        WreckSky x = new WreckSky();
        for (int sheet = 0; sheet < 4; sheet++) {
            is("30: sheet " + sheet, x.sheet(sheet, 0, sheet), sheet);
        }
        EDGE.outside("30: sheet", 0, 3, v -> y -> y.sheet(v, 0, 1));
        EDGE.outside("30: sheet to be missing", 0, 3, v -> y -> y.sheet(v, -1, 1));
    }

    // "of shorts (sort 0) or floats (1 ...)", "(sort -1: MISSING ...)"; "BAD: ... sort".
    private static void promise30Sorts() {
        for (int sheet = 0; sheet < 4; sheet++) {
            int s = sheet;
            EDGE.outside("30: sort", -1, 1, v -> y -> y.sheet(s, v, 1));
        }
        WreckSky x = new WreckSky();
        x.sheet(0, 0, 1);
        x.sheet(1, 1, 1);
        is("30: shorts", x.mark(0, 0, NONE), KIND);
        is("30: floats", x.mark(1, 0, NONE), 1);
    }

    // "with 0 to 24 places"; "BAD: ... n above 24; SIZE": "SIZE: a number of places is below 0".
    private static void promise30Sizes() {
        WreckSky x = new WreckSky();
        for (int sort = 0; sort <= 1; sort++) {
            int s = sort;
            is("30: none", x.sheet(0, sort, 0), 0);
            is("30: no place", x.mark(0, 0, 1), INDEX);
            is("30: one", x.sheet(0, sort, 1), 1);
            is("30: its place", x.mark(0, 0, 1), 1);
            is("30: the most", x.sheet(0, sort, 24), 24);
            is("30: its last place", x.mark(0, 23, 1), 1);
            is("30: behind it", x.mark(0, 24, 1), INDEX);
            for (int sheet = 0; sheet < 4; sheet++) {
                int k = sheet;
                EDGE.leaves("30: 25", y -> y.sheet(k, s, 25), BAD);
                EDGE.leaves("30: below 0", y -> y.sheet(k, s, -1), SIZE);
            }
            EDGE.leaves("30: far above", y -> y.sheet(0, s, HIGH), BAD);
            EDGE.leaves("30: far below", y -> y.sheet(0, s, LOW), SIZE);
        }
    }

    // "(sort -1: MISSING, n any): n (0)."
    private static void promise30Missing() {
        for (int n : new int[] {0, 1, 24, 25, -1, LOW, HIGH}) {
            WreckSky x = Edge.rich();
            is("30: missing, n " + n, x.sheet(0, -1, n), 0);
            is("30: it is", x.mark(0, 0, 0), NOTHING);
            is("30: missing already", x.sheet(0, -1, n), 0);
        }
    }

    // "A SHEET becomes a row of n places of a sort, all 0": also where other numbers were.
    private static void promise30AllNothing() {
        WreckSky x = new WreckSky();
        for (int sort = 0; sort <= 1; sort++) {
            x.sheet(0, sort, 24);
            for (int i = 0; i < 24; i++) {
                x.mark(0, i, i + 1);
            }
            x.sheet(0, sort, 3);
            cells("30: all 0", x, 0, 0, 0, 0);
            x.sheet(0, 1 - sort, 24);
            cells("30: all 0 behind fewer", x, 0, new int[24]);
        }
        x.sheet(1, 1, 1);
        x.mark(1, 0, NONE);
        x.sheet(1, 1, 1);
        is("30: no number is gone", cell(x, 1, 0), 0);
    }

    // "BAD: sheet, sort, n above 24; SIZE." (The first that stands with it.)
    private static void promise30BadStandsAheadOfSize() {
        WreckSky x = new WreckSky();
        is("30: sheet and size", x.sheet(4, 0, -1), BAD);
        is("30: sheet and size", x.sheet(-1, 0, -1), BAD);
        is("30: sort and size", x.sheet(0, 2, -1), BAD);
        is("30: sort and size", x.sheet(0, -2, -1), BAD);
    }

    // ---- promise 31

    // "BAD: sheet".
    private static void promise31Sheets() {
        EDGE.outside("31: sheet", 0, 3, v -> x -> x.mark(v, 0, 1));
        WreckSky x = new WreckSky();
        x.sheet(3, 0, 1);
        is("31: the last sheet", x.mark(3, 0, 1), 1);
    }

    // "NOTHING".
    private static void promise31Missing() {
        EDGE.leaves("31: missing", x -> x.mark(3, 0, 1), NOTHING);
    }

    // "INDEX: there is no such place".
    private static void promise31Places() {
        for (int place : new int[] {-1, 3, LOW, HIGH}) {
            EDGE.leaves("31: place " + place + " of three", x -> x.mark(0, place, 1), INDEX);
        }
        for (int place : new int[] {-1, 0, 1}) {
            EDGE.leaves("31: place " + place + " of none", x -> x.mark(2, place, 1), INDEX);
        }
        WreckSky x = new WreckSky();
        x.sheet(0, 0, 3);
        is("31: the first", x.mark(0, 0, 7), 1);
        is("31: the last", x.mark(0, 2, 9), 1);
        cells("31: these two", x, 0, 7, 0, 9);
    }

    // "of shorts its lowest 16 bits".
    private static void promise31Shorts() {
        int[][] bits = {{32767, 32767}, {32768, -32768}, {-32768, -32768}, {-32769, 32767}, {65535, -1}, {65536, 0}, {-65536, 0}, {LOW, 0},
            {HIGH, -1}, {0, 0}, {-1, -1}, {99999, -31073}, {100000, -31072}, {BAD, 13823}, {NONE + 1, 13820}, {NONE - 1, 13818}};
        WreckSky x = new WreckSky();
        x.sheet(0, 0, 1);
        for (int[] b : bits) {
            is("31: short " + b[0], x.mark(0, 0, b[0]), 1);
            is("31: is, of " + b[0], cell(x, 0, 0), b[1]);
        }
    }

    // "of floats v, -99999 .. 99999"; "BAD: v of floats."
    private static void promise31Floats() {
        WreckSky x = new WreckSky();
        x.sheet(0, 1, 1);
        for (int v : new int[] {-99999, 99999, 0, -1, 32768, -32769}) {
            is("31: float " + v, x.mark(0, 0, v), 1);
            is("31: is", cell(x, 0, 0), v);
        }
        EDGE.outside("31: v of floats", -99999, 99999, v -> y -> y.mark(1, 1, v));
        EDGE.leaves("31: beside NONE", y -> y.mark(1, 1, NONE + 1), BAD);
        EDGE.leaves("31: beside NONE", y -> y.mark(1, 1, NONE - 1), BAD);
    }

    // "NONE: NO NUMBER"; "KIND: NONE in a row of shorts".
    private static void promise31NoNumber() {
        EDGE.leaves("31: in shorts", x -> x.mark(0, 1, NONE), KIND);
        WreckSky x = new WreckSky();
        x.sheet(0, 1, 1);
        is("31: in floats", x.mark(0, 0, NONE), 1);
        is("31: no number", cell(x, 0, 0), KIND);
        is("31: a number again", x.mark(0, 0, 5), 1);
        is("31: a number again", cell(x, 0, 0), 5);
    }

    // "BAD: sheet; NOTHING; INDEX; KIND: NONE in a row of shorts; BAD: v of floats." (The first that stands with it.)
    private static void promise31OneBehindTheOther() {
        WreckSky x = Edge.rich();
        is("31: sheet ahead of all", x.mark(4, -1, NONE), BAD);
        is("31: missing ahead of index", x.mark(3, -1, NONE), NOTHING);
        is("31: missing ahead of v", x.mark(3, 0, HIGH), NOTHING);
        is("31: index ahead of kind", x.mark(0, 3, NONE), INDEX);
        is("31: index ahead of v", x.mark(1, 2, 100000), INDEX);
    }

    // ---- promise 32

    // "BAD; NOTHING."
    private static void promise32Sheets() {
        EDGE.outside("32: sheet", 0, 3, v -> x -> x.pour(v));
        EDGE.leaves("32: missing", x -> x.pour(3), NOTHING);
        EDGE.leaves("32: no places", x -> x.pour(2), 0);
        is("32: the last sheet", pouring(1, 50).pour(3), 1);
    }

    /** One WRECK of MASS 10, and SHEET 3 with that in its first place. */
    private static WreckSky pouring(int sort, int v) {
        WreckSky x = Edge.with(0, 0, 0, 0, 10);
        x.sheet(3, sort, 1);
        x.mark(3, 0, v);
        return x;
    }

    // "(each held within 1 .. 99 ...)".
    private static void promise32HeldWithin() {
        int[][] held = {{0, 1}, {1, 1}, {2, 2}, {98, 98}, {99, 99}, {100, 99}, {-1, 1}, {32767, 99}, {-32768, 1}};
        for (int[] h : held) {
            for (int sort = 0; sort <= 1; sort++) {
                WreckSky x = pouring(sort, h[0]);
                is("32: pour " + h[0], x.pour(3), 1);
                is("32: mass of " + h[0], x.told(0, 4), h[1]);
            }
        }
        for (int v : new int[] {99999, -99999}) {
            WreckSky x = pouring(1, v);
            x.pour(3);
            is("32: mass of " + v, x.told(0, 4), v > 0 ? 99 : 1);
        }
    }

    // "NO NUMBER, and beyond the SHEET: they stay".
    private static void promise32StayAsTheyAre() {
        WreckSky x = Edge.crowded();
        x.sheet(0, 1, 13);
        for (int i = 0; i < 13; i++) {
            x.mark(0, i, i == 5 ? NONE : 50);
        }
        is("32: twelve", x.pour(0), 12);
        is("32: no number", x.told(5, 4), 15);
        is("32: the last of the sheet", x.told(12, 4), 50);
        is("32: beyond the sheet", x.told(13, 4), 23);
        x.sheet(1, 0, 24);
        for (int i = 0; i < 24; i++) {
            x.mark(1, i, 60);
        }
        is("32: more places than wrecks", x.pour(1), 14);
        is("32: no wrecks come", x.count(0), 14);
        WreckSky none = new WreckSky();
        none.sheet(0, 0, 24);
        is("32: no wrecks", none.pour(0), 0);
        EDGE.leaves("32: no number at all", EdgesSheetsTest::allNoNumber, y -> y.pour(0), 0);
    }

    private static WreckSky allNoNumber() {
        WreckSky x = Edge.rich();
        x.sheet(0, 1, 5);
        marks(x, 0, NONE, NONE, NONE, NONE, NONE);
        return x;
    }

    // "how many are otherwise then."
    private static void promise32HowManyAreOtherwise() {
        WreckSky x = Edge.with(0, 0, 0, 0, 1, 0, 0, 1, 0, 99, 0, 0, 2, 0, 50);
        x.sheet(0, 0, 3);
        marks(x, 0, -5, 500, 51);
        is("32: held to what they are", x.pour(0), 1);
        is("32: again", x.pour(0), 0);
        x.sweep(2);
        x.mark(0, 2, 52);
        is("32: a gone one", x.pour(0), 1);
        is("32: a gone one", x.told(2, 4), 52);
    }

    // ---- promise 33

    // "BAD; NOTHING".
    private static void promise33Sheets() {
        EDGE.outside("33: sheet", 0, 3, v -> x -> x.reads(v));
        EDGE.leaves("33: missing", x -> x.reads(3), NOTHING);
        EDGE.leaves("33: no places", x -> x.reads(2), NONE);
        EDGE.asks("33: asking", x -> x.reads(1));
    }

    // "The first place ... at which a SHEET is not PLACE of that WRECK"; "NONE: there is none."
    private static void promise33Places() {
        WreckSky x = Edge.crowded();
        x.sheet(3, 0, 14);
        for (int i = 0; i < 14; i++) {
            is("33: the first that is not", x.reads(3), i == 0 ? 1 : i);
            x.mark(3, i, 2 * i);
        }
        is("33: all are", x.reads(3), NONE);
        x.mark(3, 13, 25);
        is("33: the last is not", x.reads(3), 13);
        x.mark(3, 0, 30);
        is("33: not by rests", x.reads(3), 0);
        x.mark(3, 0, -30);
        is("33: not by rests", x.reads(3), 0);
        x.mark(3, 0, 0);
        x.mark(3, 13, 26);
        x.sweep(13);
        is("33: of a gone one too", x.reads(3), NONE);
    }

    // "(of numbers alone)".
    private static void promise33NumbersAlone() {
        WreckSky x = Edge.crowded();
        x.sheet(0, 1, 24);
        for (int i = 0; i < 24; i++) {
            x.mark(0, i, NONE);
        }
        is("33: no numbers", x.reads(0), NONE);
        x.mark(0, 23, 0);
        is("33: the last alone", x.reads(0), 23);
        x.mark(0, 13, 25);
        is("33: the last wreck", x.reads(0), 13);
    }

    // "(of places that are no WRECK all numbers are not)".
    private static void promise33PlacesThatAreNoWreck() {
        WreckSky x = new WreckSky();
        x.sheet(0, 0, 1);
        is("33: no wreck at all", x.reads(0), 0);
        x.wreck(0, 0, 0, 0, 5);
        is("33: it is one now", x.reads(0), NONE);
        x.sheet(0, 0, 2);
        is("33: the next is none", x.reads(0), 1);
        // What a number beyond the WRECKS had in an IMAGE's time is nothing now.
        WreckSky y = Edge.with(0, 0, 7, 0, 5);
        y.keep();
        y.wreck(0, 0, 8, 0, 5);
        y.back();
        y.sheet(0, 0, 2);
        marks(y, 0, 7, 8);
        is("33: none any more", y.reads(0), 1);
        WreckSky full = Edge.crowded();
        full.sheet(0, 0, 15);
        for (int i = 0; i < 14; i++) {
            full.mark(0, i, 2 * i);
        }
        is("33: a fifteenth is none", full.reads(0), 14);
    }

    // ---- promise 34

    // "BAD" (From a SHEET, its place, to a SHEET, its place.)
    private static void promise34Sheets() {
        EDGE.outside("34: from", 0, 3, v -> x -> x.copy(v, 0, 0, 0, 1));
        EDGE.outside("34: to", 0, 3, v -> x -> x.copy(0, 0, v, 0, 1));
        WreckSky x = new WreckSky();
        x.sheet(0, 0, 2);
        x.sheet(3, 0, 2);
        marks(x, 3, 5, 6);
        is("34: from the last to the first", x.copy(3, 0, 0, 0, 2), 2);
        cells("34: came", x, 0, 5, 6);
    }

    // "NOTHING": either one.
    private static void promise34Missing() {
        EDGE.leaves("34: from", x -> x.copy(3, 0, 0, 0, 0), NOTHING);
        EDGE.leaves("34: to", x -> x.copy(0, 0, 3, 0, 0), NOTHING);
        EDGE.leaves("34: both", x -> x.copy(3, 0, 3, 0, 0), NOTHING);
    }

    // "KIND: they are not of one sort": whatever comes, even nothing.
    private static void promise34Sorts() {
        EDGE.leaves("34: shorts to floats", x -> x.copy(0, 0, 1, 0, 1), KIND);
        EDGE.leaves("34: floats to shorts", x -> x.copy(1, 1, 0, 0, 1), KIND);
        EDGE.leaves("34: nothing of another sort", x -> x.copy(0, 0, 2, 0, 0), KIND);
        EDGE.leaves("34: nothing of one sort", x -> x.copy(1, 0, 2, 0, 0), 0);
    }

    private static WreckSky rows() {
        WreckSky x = new WreckSky();
        x.sheet(0, 0, 5);
        marks(x, 0, 1, 2, 3, 4, 5);
        x.sheet(1, 0, 3);
        marks(x, 1, 7, 8, 9);
        return x;
    }

    private static void copied(int place, int at, int many, int want) {
        String what = "34: from " + place + " to " + at + ", " + many;
        if (want < 0 || many == 0) {
            EDGE.leaves(what, EdgesSheetsTest::rows, x -> x.copy(0, place, 1, at, many), want);
            return;
        }
        WreckSky x = rows();
        is(what, x.copy(0, place, 1, at, many), want);
        int[] due = {7, 8, 9};
        for (int i = 0; i < many; i++) {
            due[at + i] = place + i + 1;
        }
        cells(what, x, 1, due);
        cells(what, x, 0, 1, 2, 3, 4, 5);
    }

    // "INDEX: there is no such place", of either SHEET, on both sides.
    private static void promise34Places() {
        copied(0, 0, 1, 1);
        copied(4, 2, 1, 1);
        copied(5, 0, 1, INDEX);
        copied(-1, 0, 1, INDEX);
        copied(0, 3, 1, INDEX);
        copied(0, -1, 1, INDEX);
        copied(2, 0, 3, 3);
        copied(3, 0, 3, INDEX);
        copied(0, 1, 2, 2);
        copied(0, 1, 3, INDEX);
        copied(-1, 0, 3, INDEX);
        copied(0, -1, 3, INDEX);
    }

    // "So many places": none, all, one more, fewer than none.
    private static void promise34HowMany() {
        copied(0, 0, 0, 0);
        copied(5, 3, 0, 0);
        copied(6, 0, 0, INDEX);
        copied(0, 4, 0, INDEX);
        copied(-1, 0, 0, INDEX);
        copied(0, -1, 0, INDEX);
        copied(0, 0, 3, 3);
        copied(0, 0, 4, INDEX);
        copied(0, 0, -1, INDEX);
        copied(5, 3, -1, INDEX);
        WreckSky x = new WreckSky();
        x.sheet(0, 1, 24);
        x.sheet(1, 1, 24);
        for (int i = 0; i < 24; i++) {
            x.mark(0, i, i == 9 ? NONE : 1000 * i);
        }
        is("34: all 24", x.copy(0, 0, 1, 0, 24), 24);
        is("34: the first", cell(x, 1, 0), 0);
        is("34: the last", cell(x, 1, 23), 23000);
        is("34: no number comes too", cell(x, 1, 9), KIND);
        is("34: 25", x.copy(0, 0, 1, 0, 25), INDEX);
        is("34: to the same places", x.copy(0, 0, 0, 0, 24), 24);
        is("34: as they were", cell(x, 0, 23), 23000);
    }

    // "INDEX": also where the sum of a place and how many would wrap.
    private static void promise34SumsThatWrap() {
        for (int v : new int[] {HIGH, LOW, HIGH - 1, LOW + 1}) {
            copied(v, 0, 1, INDEX);
            copied(0, v, 1, INDEX);
            copied(0, 0, v, INDEX);
            copied(v, v, v, INDEX);
            copied(1, 1, v, INDEX);
        }
        copied(HIGH, 0, HIGH, INDEX);
        copied(LOW, LOW, LOW, INDEX);
        copied(HIGH, HIGH, 2, INDEX);
    }

    // "BAD; NOTHING; KIND ...; INDEX." (The first that stands with it.)
    private static void promise34OneBehindTheOther() {
        WreckSky x = Edge.rich();
        is("34: from ahead of missing", x.copy(4, 9, 3, 9, 9), BAD);
        is("34: to ahead of missing", x.copy(3, 9, 4, 9, 9), BAD);
        is("34: missing ahead of index", x.copy(3, -1, 1, -1, -1), NOTHING);
        is("34: missing ahead of kind", x.copy(1, 0, 3, 0, 0), NOTHING);
        is("34: kind ahead of index", x.copy(0, -1, 1, 99, -1), KIND);
    }

    // "come to another one (or the same), as they were".
    private static void promise34AsTheyWere() {
        WreckSky up = rows();
        is("34: upwards", up.copy(0, 0, 0, 1, 4), 4);
        cells("34: upwards", up, 0, 1, 1, 2, 3, 4);
        WreckSky down = rows();
        is("34: downwards", down.copy(0, 1, 0, 0, 4), 4);
        cells("34: downwards", down, 0, 2, 3, 4, 5, 5);
    }

    // ---- promise 35

    // "SLOTS 0 .. 4"; "BAD: slot".
    private static void promise35Slots() {
        WreckSky x = new WreckSky();
        for (int slot = 0; slot < 5; slot++) {
            is("35: slot " + slot, x.lay(slot, 3, 10 + slot), 0);
        }
        for (int slot = 0; slot < 5; slot++) {
            is("35: each by itself", x.rest(slot, 100), 10 + slot);
        }
        for (int thing = 0; thing < 4; thing++) {
            int t = thing;
            EDGE.outside("35: slot for " + thing, 0, 4, v -> y -> y.lay(v, t, 0));
        }
    }

    // "thing 0 nothing, 1 WRECK k, 2 SHEET k, 3 the number k"; "BAD: ... thing".
    private static void promise35Things() {
        for (int slot = 0; slot < 4; slot++) {
            int s = slot;
            EDGE.outside("35: thing to " + slot, 0, 3, v -> x -> x.lay(s, v, 0));
        }
    }

    // "BAD: ... k", of a WRECK.
    private static void promise35Wrecks() {
        EDGE.outside("35: wreck", 0, 4, v -> x -> x.lay(2, 1, v));
        EDGE.outside("35: wreck of none", WreckSky::new, 0, -1, v -> x -> x.lay(0, 1, v));
        WreckSky x = Edge.crowded();
        is("35: the last", x.lay(0, 1, 13), 0);
        is("35: the last", x.ask(0, 0), 23);
        x.sweep(0);
        is("35: a gone one", x.lay(1, 1, 0), 0);
        is("35: a gone one", x.ask(1, 0), 10);
    }

    // "BAD: ... k", of a SHEET; "NOTHING: that SHEET is MISSING."
    private static void promise35Sheets() {
        EDGE.outside("35: sheet", 0, 3, v -> x -> x.lay(0, 2, v));
        EDGE.leaves("35: missing", x -> x.lay(0, 2, 3), NOTHING);
        is("35: slot ahead of missing", Edge.rich().lay(5, 2, 3), BAD);
        is("35: a sheet without places", Edge.rich().lay(3, 2, 2), 0);
        WreckSky x = new WreckSky();
        x.sheet(3, 0, 1);
        is("35: the last", x.lay(4, 2, 3), 0);
        is("35: the last", x.item(4, 0), 0);
    }

    // Of nothing, and of a number, any k goes.
    private static void promise35AnyNumber() {
        for (int k : new int[] {LOW, HIGH, -1, 0, 14, BAD, NONE}) {
            WreckSky x = new WreckSky();
            is("35: the number " + k, x.lay(0, 3, k), 0);
            is("35: it is", x.rest(0, HIGH), k % HIGH);
            is("35: nothing " + k, x.lay(0, 0, k), 3);
            is("35: it is nothing", x.rest(0, 1), NOTHING);
        }
    }

    // "what it held (0 .. 3)".
    private static void promise35WhatItHeld() {
        WreckSky x = Edge.rich();
        for (int before = 0; before < 4; before++) {
            for (int thing = 0; thing < 4; thing++) {
                x.lay(4, before, 0);
                is("35: held " + before, x.lay(4, thing, 0), before);
            }
        }
        is("35: the wreck still", x.lay(0, 0, 0), 1);
        is("35: the sheet still", x.lay(1, 0, 0), 2);
        is("35: the number still", x.lay(2, 0, 0), 3);
    }

    // "a WRECK (as it is then, for good), a SHEET (a row of its own, as it was then)".
    private static void promise35AsItIsThen() {
        WreckSky x = Edge.with(0, 0, 0, 0, 10);
        x.sheet(0, 0, 2);
        marks(x, 0, 3, 4);
        x.lay(0, 1, 0);
        x.lay(1, 2, 0);
        x.lay(2, 2, 0);
        x.set(0, 4, 99);
        x.turns(0, 5);
        x.mark(0, 1, 77);
        x.lay(2, 2, 0);
        is("35: the wreck of then", x.ask(0, 0), 10);
        is("35: the kind of then", x.ask(0, 5), KIND);
        is("35: the row of then", x.item(1, 1), 4);
        is("35: the row of now", x.item(2, 1), 77);
        x.sheet(0, 1, 24);
        is("35: as long as then", x.item(1, 2), INDEX);
        x.sheet(0, -1, 0);
        is("35: it is missing now", x.item(1, 1), 4);
    }

    // ---- promise 36

    // "BAD": slot, "(0 .. 5)" kind; ahead of the others.
    private static void promise36SlotsAndKinds() {
        EDGE.outside("36: slot", 0, 4, v -> x -> x.ask(v, 0));
        for (int slot = 0; slot < 5; slot++) {
            int s = slot;
            EDGE.outside("36: kind of slot " + slot, 0, 5, v -> x -> x.ask(s, v));
        }
        WreckSky x = Edge.with(0, 0, 0, 0, 10);
        x.lay(4, 1, 0);
        is("36: the last slot", x.ask(4, 0), 10);
        is("36: slot and kind", x.ask(5, 6), BAD);
    }

    // "NOTHING; KIND: it is no WRECK".
    private static void promise36NothingAndKind() {
        for (int kind = 0; kind < 6; kind++) {
            int k = kind;
            EDGE.leaves("36: nothing", x -> x.ask(3, k), NOTHING);
            EDGE.leaves("36: a sheet", x -> x.ask(1, k), KIND);
            EDGE.leaves("36: a number", x -> x.ask(2, k), KIND);
        }
    }

    // "or not of that KIND, nor of one under it."
    private static void promise36OneUnderAnother() {
        String[] are = {"0", "01", "02", "013", "024", "05"};
        int[] worth = {10, 19, 89, 38, 84, 2};
        for (int kind = 0; kind < 6; kind++) {
            WreckSky x = Edge.with(kind, 0, 0, 0, 10);
            x.lay(0, 1, 0);
            for (int asked = 0; asked < 6; asked++) {
                is("36: kind " + kind + " for " + asked, x.ask(0, asked), are[kind].indexOf('0' + asked) >= 0 ? worth[kind] : KIND);
            }
        }
        WreckSky dust = Edge.with(4, 0, 0, 0, 99);
        dust.lay(0, 1, 0);
        is("36: worth below 0", dust.ask(0, 4), -5);
    }

    // ---- promise 37

    // "BAD: slot".
    private static void promise37Slots() {
        EDGE.outside("37: slot", 0, 4, v -> x -> x.item(v, 0));
    }

    // "NOTHING; KIND: it is no SHEET; INDEX": in that order.
    private static void promise37NothingAndKind() {
        for (int place : new int[] {-1, 0, 24, LOW, HIGH}) {
            EDGE.leaves("37: nothing", x -> x.item(3, place), NOTHING);
            EDGE.leaves("37: a wreck", x -> x.item(0, place), KIND);
            EDGE.leaves("37: a number", x -> x.item(2, place), KIND);
        }
        is("37: slot ahead of all", Edge.rich().item(5, -1), BAD);
    }

    // "INDEX; KIND: NO NUMBER."
    private static void promise37Places() {
        WreckSky x = new WreckSky();
        x.sheet(0, 0, 24);
        x.mark(0, 0, 5);
        x.mark(0, 23, 6);
        x.lay(4, 2, 0);
        is("37: the first of 24", x.item(4, 0), 5);
        is("37: the last of 24", x.item(4, 23), 6);
        for (int place : new int[] {-1, 24, LOW, HIGH}) {
            is("37: place " + place + " of 24", x.item(4, place), INDEX);
        }
        x.sheet(1, 1, 0);
        x.lay(0, 2, 1);
        is("37: of no places", x.item(0, 0), INDEX);
        x.sheet(1, 1, 3);
        marks(x, 1, NONE, -99999, NONE);
        x.lay(0, 2, 1);
        is("37: no number", x.item(0, 0), KIND);
        is("37: a number", x.item(0, 1), -99999);
        is("37: no number", x.item(0, 2), KIND);
        is("37: behind the end", x.item(0, 3), INDEX);
        EDGE.asks("37: asking", y -> y.item(1, 1));
        EDGE.leaves("37: no such place", y -> y.item(1, 3), INDEX);
    }

    // ---- promise 38

    // "BAD: slot".
    private static void promise38Slots() {
        EDGE.outside("38: slot", 0, 4, v -> x -> x.rest(v, 1));
        EDGE.outside("38: slot, by 0", 0, 4, v -> x -> x.rest(v, 0));
    }

    // "NOTHING; KIND: it is no number; NO": in that order.
    private static void promise38NothingAndKind() {
        for (int n : new int[] {0, 1, -1}) {
            EDGE.leaves("38: nothing", x -> x.rest(3, n), NOTHING);
            EDGE.leaves("38: a wreck", x -> x.rest(0, n), KIND);
            EDGE.leaves("38: a sheet", x -> x.rest(1, n), KIND);
        }
    }

    // "NO: n is 0."
    private static void promise38ByNothing() {
        EDGE.leaves("38: by 0", x -> x.rest(2, 0), NO);
        WreckSky x = new WreckSky();
        x.lay(0, 3, 0);
        is("38: 0 by 0", x.rest(0, 0), NO);
        is("38: 0 by 1", x.rest(0, 1), 0);
        is("38: 0 by -1", x.rest(0, -1), 0);
    }

    // "The rest of the number in a SLOT by n", "/ cuts towards 0": with the sign of the number.
    private static void promise38Edges() {
        int[] all = {LOW, LOW + 1, -31, -30, -1, 0, 1, 29, 30, 31, HIGH - 1, HIGH};
        for (int number : all) {
            WreckSky x = new WreckSky();
            x.lay(4, 3, number);
            for (int n : all) {
                if (n != 0) is("38: " + number + " by " + n, x.rest(4, n), (int) ((long) number - (long) number / n * n));
            }
        }
        EDGE.asks("38: asking", y -> y.rest(2, 5));
    }
}

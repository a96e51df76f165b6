/**
 * The boundary cases of promises 1 to 13 and of the document's parts 1 and 2: a method for each sentence that names one,
 * with the promise's number in its name and the sentence above it.
 */
public final class EdgesWrecksTest {
    private static final int BAD = Edge.BAD, NO = Edge.NO, FULL = Edge.FULL, NONE = Edge.NONE, NOTHING = Edge.NOTHING;
    private static final int KIND = Edge.KIND, LOW = Edge.LOW, HIGH = Edge.HIGH;
    private static final Edge EDGE = new Edge("EdgesWrecksTest");

    public static void main(String[] args) {
        promise1NumbersAtFirst();
        promise1SheetsAndSlotsAtFirst();
        promise1NoTextsNoImageAtFirst();
        promise2Kinds();
        promise2Heights();
        promise2Places();
        promise2Paces();
        promise2Masses();
        promise2FourteenAtMost();
        promise2GoneOnesKeepTheirRoom();
        promise2BadStandsAheadOfFull();
        promise2UpAtFirst();
        promise3Wrecks();
        promise3Whats();
        promise3HardIsHeldWithin();
        promise3HardWithoutText();
        promise3HardOfBoltIsZeroAtLeast();
        promise3HardOfOwnedIsCut();
        promise3GoesOfOwned();
        promise3GoesOfDead();
        promise3GoesOfBoltAndDust();
        promise3Worth();
        promise4WrecksAndKinds();
        promise4KindsUnderOneAnother();
        promise5WrecksAndKinds();
        promise6Whats();
        promise6Values();
        promise6UpAgain();
        promise7Wrecks();
        promise7GoneInAnyWay();
        promise8Drags();
        promise9HeightsAndPlaces();
        promise9Sets();
        promise10Numbers();
        promise10Room();
        promise10DrawnWithin();
        promise11AnyNumber();
        promise12Numbers();
        promise12UpTo9999();
        promise12AlreadyAt9999();
        promise12BrokenInThemAlone();
        promise12GoesRound();
        promise12GoneOnesStay();
        promise12NumbersAheadOfMeeting();
        promise12BothUpByThen();
        promise12LikeOnes();
        promise12MassOne();
        promise12HalfIsCut();
        promise12PaceNineAtMost();
        promise12IfThereIsRoom();
        promise12RestBelowDrag();
        promise12NothingWithoutWrecks();
        promise12SinksIfUp();
        promise12HeightBelow();
        promise12DrawsAreInts();
        promise13Whats();
        promise13EmptyAndFull();
        EDGE.end();
    }

    private static void is(String what, int got, int want) {
        EDGE.is(what, got, want);
    }

    private static WreckSky with(int... wrecks) {
        return Edge.with(wrecks);
    }

    // ---- promise 1

    // "DRAG 0 .. 100 (0 at first). BROKEN, BURNT, SWEPT (how many) are 0 at first; THE HOUR is 0 at first"; "z is told (1 at first)".
    private static void promise1NumbersAtFirst() {
        WreckSky x = new WreckSky();
        for (int what = 0; what < 7; what++) {
            is("1: count " + what, x.count(what), 0);
        }
        is("1: z", x.count(7), 1);
        for (int what = 0; what < 6; what++) {
            is("1: sky " + what, x.sky(what), 0);
        }
        is("1: no wrecks", x.told(0, 0), BAD);
    }

    // "or MISSING (at first)"; "SLOTS 0 .. 4 each hold nothing (at first)".
    private static void promise1SheetsAndSlotsAtFirst() {
        WreckSky x = new WreckSky();
        for (int sheet = 0; sheet < 4; sheet++) {
            is("1: mark", x.mark(sheet, 0, 0), NOTHING);
            is("1: pour", x.pour(sheet), NOTHING);
            is("1: reads", x.reads(sheet), NOTHING);
            is("1: seen", x.seen(sheet, 0), NOTHING);
            is("1: copy", x.copy(sheet, 0, sheet, 0, 0), NOTHING);
            is("1: lay", x.lay(0, 2, sheet), NOTHING);
        }
        for (int slot = 0; slot < 5; slot++) {
            is("1: ask", x.ask(slot, 0), NOTHING);
            is("1: item", x.item(slot, 0), NOTHING);
            is("1: rest", x.rest(slot, 1), NOTHING);
            is("1: held", x.lay(slot, 0, 0), 0);
        }
    }

    // "As told": no TEXTS, an empty TAPE, no numbers that wait, no IMAGE.
    private static void promise1NoTextsNoImageAtFirst() {
        WreckSky x = new WreckSky();
        for (int key = 0; key < 3; key++) {
            is("1: why", x.why(key), NONE);
        }
        is("1: no text", x.textTold(0, 0), BAD);
        is("1: back", x.back(), NO);
        is("1: check", x.check(1), NO);
        is("1: an empty tape", x.trim(1), BAD);
        is("1: an empty tape", x.text(), -100);
    }

    // ---- promise 2

    private static void made(String what, int kind, int height, int place, int pace, int mass) {
        WreckSky x = new WreckSky();
        is(what, x.wreck(kind, height, place, pace, mass), 0);
        int[] want = {kind, height, place, pace, mass, 1};
        for (int i = 0; i < want.length; i++) {
            is(what + ", told " + i, x.told(0, i), want[i]);
        }
    }

    // "KINDS: 0 WRECK; 1 SHOE, 2 BOLT, 5 DEAD, under WRECK; 3 OWNED, under SHOE; 4 DUST, under BOLT".
    private static void promise2Kinds() {
        for (int kind = 0; kind < 6; kind++) {
            made("2: kind " + kind, kind, 1, 1, 1, 5);
        }
        EDGE.outside("2: kind", 0, 5, v -> x -> x.wreck(v, 1, 1, 1, 5));
    }

    // "HEIGHTS 0 .. 7".
    private static void promise2Heights() {
        made("2: height 0", 0, 0, 1, 1, 5);
        made("2: height 7", 0, 7, 1, 1, 5);
        EDGE.outside("2: height", 0, 7, v -> x -> x.wreck(0, v, 1, 1, 5));
    }

    // "at each a circle of PLACES 0 .. 29".
    private static void promise2Places() {
        made("2: place 0", 0, 1, 0, 1, 5);
        made("2: place 29", 0, 1, 29, 1, 5);
        EDGE.outside("2: place", 0, 29, v -> x -> x.wreck(0, 1, v, 1, 5));
    }

    // "PACE -9 .. 9".
    private static void promise2Paces() {
        made("2: pace -9", 0, 1, 1, -9, 5);
        made("2: pace 9", 0, 1, 1, 9, 5);
        EDGE.outside("2: pace", -9, 9, v -> x -> x.wreck(0, 1, 1, v, 5));
    }

    // "MASS 1 .. 99".
    private static void promise2Masses() {
        made("2: mass 1", 0, 1, 1, 1, 1);
        made("2: mass 99", 0, 1, 1, 1, 99);
        EDGE.outside("2: mass", 1, 99, v -> x -> x.wreck(0, 1, 1, 1, v));
    }

    // "WRECKS, 14 at most, numbered from 0"; "FULL".
    private static void promise2FourteenAtMost() {
        WreckSky x = new WreckSky();
        for (int i = 0; i < 14; i++) {
            is("2: the number", x.wreck(0, i % 8, i, 0, 5), i);
        }
        is("2: a fifteenth", x.wreck(0, 0, 0, 0, 5), FULL);
        is("2: fourteen", x.count(0), 14);
        EDGE.leaves("2: full", Edge::crowded, y -> y.wreck(5, 7, 29, 9, 99), FULL);
    }

    // "WRECKS, 14 at most": one that is GONE is a WRECK still.
    private static void promise2GoneOnesKeepTheirRoom() {
        WreckSky x = Edge.crowded();
        for (int i = 0; i < 14; i++) {
            x.sweep(i);
        }
        is("2: full of gone ones", x.wreck(0, 0, 0, 0, 5), FULL);
        WreckSky y = with(0, 0, 0, 0, 1);
        y.sweep(0);
        is("2: behind a gone one", y.wreck(0, 0, 0, 0, 1), 1);
    }

    // "of several the one that stands first with it": "BAD; FULL."
    private static void promise2BadStandsAheadOfFull() {
        WreckSky x = Edge.crowded();
        is("2: kind and full", x.wreck(6, 0, 0, 0, 1), BAD);
        is("2: height and full", x.wreck(0, 8, 0, 0, 1), BAD);
        is("2: place and full", x.wreck(0, 0, 30, 0, 1), BAD);
        is("2: pace and full", x.wreck(0, 0, 0, 10, 1), BAD);
        is("2: mass and full", x.wreck(0, 0, 0, 0, 100), BAD);
    }

    // "it is UP (at first)": also where a GONE one was before the IMAGE came back.
    private static void promise2UpAtFirst() {
        WreckSky x = new WreckSky();
        x.keep();
        x.wreck(0, 0, 0, 0, 1);
        x.sweep(0);
        x.back();
        x.wreck(0, 0, 0, 0, 1);
        is("2: up at first", x.told(0, 5), 1);
    }

    // ---- promise 3

    // "Of a WRECK ... BAD." (WRECKS are numbered from 0.)
    private static void promise3Wrecks() {
        is("3: the first of none", new WreckSky().told(0, 0), BAD);
        WreckSky x = Edge.crowded();
        is("3: the first", x.told(0, 4), 10);
        is("3: the last", x.told(13, 4), 23);
        EDGE.outside("3: wreck of fourteen", Edge::crowded, 0, 13, v -> y -> y.told(v, 0));
        EDGE.outside("3: wreck of five", 0, 4, v -> y -> y.told(v, 0));
    }

    // "what 0 KIND, ... 8 WORTH. BAD."
    private static void promise3Whats() {
        is("3: what 0", with(5, 0, 0, 0, 7).told(0, 0), 5);
        is("3: what 8", with(0, 0, 0, 0, 7).told(0, 8), 7);
        EDGE.outside("3: what", 0, 8, v -> x -> x.told(0, v));
    }

    private static void hard(String law, int[] byKind) {
        for (int kind = 0; kind < 6; kind++) {
            WreckSky x = with(kind, 0, 0, 0, 50);
            Due.text(x, "hard " + law);
            is("3: hard " + law + " of kind " + kind, x.told(0, 6), byKind[kind]);
        }
    }

    // "HARD: WRECK: what hard gives, held within 0 .. 999"; the KINDS under it go on from there, without a bound of their own.
    private static void promise3HardIsHeldWithin() {
        int[] least = {0, 10, 0, 5, 0, 0};
        int[] most = {999, 1009, 990, 504, 0, 1998};
        hard("0-1", least);
        hard("0", least);
        hard("1", new int[] {1, 11, 0, 5, 0, 2});
        hard("998", new int[] {998, 1008, 989, 504, 0, 1996});
        hard("999", most);
        hard("1000", most);
        hard("2048*1024*1024", least);
        hard("2048*1024*1024-1", most);
    }

    // "(without a TEXT: MASS)".
    private static void promise3HardWithoutText() {
        int[] light = {1, 11, 0, 5, 0, 2};
        int[] heavy = {99, 109, 90, 54, 0, 198};
        for (int kind = 0; kind < 6; kind++) {
            is("3: hard of mass 1, kind " + kind, with(kind, 0, 0, 0, 1).told(0, 6), light[kind]);
            is("3: hard of mass 99, kind " + kind, with(kind, 0, 0, 0, 99).told(0, 6), heavy[kind]);
        }
        WreckSky x = with(0, 0, 0, 0, 77);
        Due.text(x, "fine 5");
        Due.text(x, "fee 5");
        is("3: a text of another key is none", x.told(0, 6), 77);
    }

    // "BOLT: as WRECK, less 9 (0 at least)."
    private static void promise3HardOfBoltIsZeroAtLeast() {
        is("3: bolt of 8", with(2, 0, 0, 0, 8).told(0, 6), 0);
        is("3: bolt of 9", with(2, 0, 0, 0, 9).told(0, 6), 0);
        is("3: bolt of 10", with(2, 0, 0, 0, 10).told(0, 6), 1);
    }

    // "OWNED: half (cut) of as SHOE."
    private static void promise3HardOfOwnedIsCut() {
        is("3: owned of 2", with(3, 0, 0, 0, 2).told(0, 6), 6);
        is("3: owned of 3", with(3, 0, 0, 0, 3).told(0, 6), 6);
        is("3: owned of 4", with(3, 0, 0, 0, 4).told(0, 6), 7);
    }

    // "OWNED: as SHOE, but 0, if THE HOUR is odd."
    private static void promise3GoesOfOwned() {
        WreckSky x = with(3, 0, 0, 7, 5);
        is("3: at hour 0", x.told(0, 7), 7);
        x.hours(1);
        is("3: at hour 1", x.told(0, 7), 0);
        x.hours(1);
        is("3: at hour 2", x.told(0, 7), 7);
        Edge.at(9998, x);
        is("3: at hour 9998", x.told(0, 7), 7);
        x.hours(1);
        is("3: at hour 9999", x.told(0, 7), 0);
    }

    // "DEAD: as WRECK, but 1, if that is 0."
    private static void promise3GoesOfDead() {
        int[] paces = {-9, -1, 0, 1, 9};
        int[] goes = {-9, -1, 1, 1, 9};
        for (int i = 0; i < paces.length; i++) {
            is("3: dead with pace " + paces[i], with(5, 0, 0, paces[i], 5).told(0, 7), goes[i]);
        }
    }

    // "BOLT: as WRECK, and 1. DUST: the other way round than as BOLT." (No bound of 9 on what it GOES.)
    private static void promise3GoesOfBoltAndDust() {
        int[] paces = {-9, -1, 0, 8, 9};
        int[] goes = {-8, 0, 1, 9, 10};
        for (int i = 0; i < paces.length; i++) {
            is("3: bolt with pace " + paces[i], with(2, 0, 0, paces[i], 5).told(0, 7), goes[i]);
            is("3: dust with pace " + paces[i], with(4, 0, 0, paces[i], 5).told(0, 7), -goes[i]);
        }
    }

    // "BOLT: 99 less MASS. DUST: as BOLT, less 5." (WORTH has no bound, below 0 neither.)
    private static void promise3Worth() {
        int[] light = {1, 10, 98, 20, 93, 2};
        int[] heavy = {99, 108, 0, 216, -5, 2};
        for (int kind = 0; kind < 6; kind++) {
            is("3: worth of mass 1, kind " + kind, with(kind, 0, 0, 0, 1).told(0, 8), light[kind]);
            is("3: worth of mass 99, kind " + kind, with(kind, 0, 0, 0, 99).told(0, 8), heavy[kind]);
        }
    }

    // ---- promise 4

    // "BAD: wreck, kind; KIND: it is not of that KIND": BAD stands first.
    private static void promise4WrecksAndKinds() {
        EDGE.outside("4: wreck", 0, 4, v -> x -> x.as(v, 0));
        EDGE.outside("4: kind", 0, 5, v -> x -> x.as(0, v));
        EDGE.leaves("4: not of that kind", x -> x.as(0, 5), KIND);
        is("4: the first of none", new WreckSky().as(0, 0), BAD);
        is("4: wreck ahead of kind", with(0, 0, 0, 0, 5).as(1, 5), BAD);
        WreckSky x = Edge.crowded();
        is("4: the last wreck", x.as(13, 0), 23);
        x.sweep(13);
        is("4: a gone one", x.as(13, 0), 23);
    }

    // "KIND: it is not of that KIND, nor of one under it."
    private static void promise4KindsUnderOneAnother() {
        int[][] are = {{0, 0}, {1, 0}, {1, 1}, {2, 0}, {2, 2}, {3, 0}, {3, 1}, {3, 3}, {4, 0}, {4, 2}, {4, 4}, {5, 0}, {5, 5}};
        for (int kind = 0; kind < 6; kind++) {
            WreckSky x = with(kind, 0, 0, 0, 41);
            for (int asked = 0; asked < 6; asked++) {
                int want = KIND;
                for (int[] pair : are) {
                    want = pair[0] == kind && pair[1] == asked ? 41 : want;
                }
                is("4: kind " + kind + " as " + asked, x.as(0, asked), want);
            }
        }
    }

    // ---- promise 5

    // "A WRECK is of another KIND from now on: what it was. BAD."
    private static void promise5WrecksAndKinds() {
        EDGE.outside("5: wreck", 0, 4, v -> x -> x.turns(v, 0));
        EDGE.outside("5: kind", 0, 5, v -> x -> x.turns(0, v));
        is("5: the first of none", new WreckSky().turns(0, 0), BAD);
        WreckSky x = Edge.crowded();
        is("5: to the last kind", x.turns(13, 5), 0);
        is("5: to the first kind", x.turns(13, 0), 5);
        is("5: to the same kind", x.turns(13, 0), 0);
        x.sweep(13);
        is("5: a gone one", x.turns(13, 4), 0);
        is("5: it is", x.told(13, 0), 4);
    }

    // ---- promise 6

    // "(what 1 .. 5) of a WRECK ... BAD."
    private static void promise6Whats() {
        EDGE.outside("6: what", 1, 5, v -> x -> x.set(0, v, 1));
        EDGE.outside("6: wreck", 0, 4, v -> x -> x.set(v, 1, 1));
        is("6: the first of none", new WreckSky().set(0, 1, 1), BAD);
        is("6: the last wreck", Edge.crowded().set(13, 4, 1), 23);
    }

    // "HEIGHT, PLACE, PACE, MASS, UP (what 1 .. 5) of a WRECK becomes v: what it was. BAD.", within the bounds of part 1.
    private static void promise6Values() {
        int[] least = {0, 0, 0, -9, 1, 0};
        int[] most = {0, 7, 29, 9, 99, 1};
        for (int i = 1; i <= 5; i++) {
            int what = i;
            WreckSky x = with(0, 3, 4, 5, 6);
            int was = x.told(0, what);
            is("6: the least of " + what, x.set(0, what, least[what]), was);
            is("6: is the least of " + what, x.told(0, what), least[what]);
            is("6: the most of " + what, x.set(0, what, most[what]), least[what]);
            is("6: is the most of " + what, x.told(0, what), most[what]);
            EDGE.outside("6: v for " + what, least[what], most[what], v -> y -> y.set(0, what, v));
        }
    }

    // "UP (what 5) of a WRECK becomes v": a GONE one can be UP again; nothing is SWEPT by it.
    private static void promise6UpAgain() {
        WreckSky x = with(0, 3, 4, 5, 6);
        is("6: gone", x.set(0, 5, 0), 1);
        is("6: gone already", x.set(0, 5, 0), 0);
        is("6: not swept", x.sky(2), 0);
        is("6: set while gone", x.set(0, 4, 99), 6);
        is("6: up again", x.set(0, 5, 1), 0);
        is("6: up already", x.set(0, 5, 1), 1);
        is("6: its mass", x.sweep(0), 99);
    }

    // ---- promise 7

    // "BAD".
    private static void promise7Wrecks() {
        EDGE.outside("7: wreck", 0, 4, v -> x -> x.sweep(v));
        is("7: the first of none", new WreckSky().sweep(0), BAD);
        WreckSky x = Edge.crowded();
        is("7: the last", x.sweep(13), 23);
        is("7: the first", x.sweep(0), 10);
        is("7: swept", x.sky(2), 2);
    }

    // "NO: it is GONE."
    private static void promise7GoneInAnyWay() {
        EDGE.leaves("7: swept before", x -> x.sweep(4), NO);
        WreckSky set = with(0, 0, 0, 0, 5);
        set.set(0, 5, 0);
        is("7: gone by set", set.sweep(0), NO);
        WreckSky broken = with(0, 0, 0, 0, 5, 0, 0, 0, 0, 1);
        broken.hours(1);
        is("7: gone by breaking", broken.sweep(1), NO);
        WreckSky burnt = with(0, 0, 0, 0, 5);
        burnt.drag(100);
        burnt.hours(1);
        is("7: burnt", burnt.sweep(0), NO);
        is("7: none of these is swept", set.sky(2) + broken.sky(2) + burnt.sky(2), 0);
        burnt.set(0, 5, 1);
        is("7: up again", burnt.sweep(0), 5);
        is("7: swept", burnt.sky(2), 1);
    }

    // ---- promise 8

    // "DRAG 0 .. 100"; "BAD".
    private static void promise8Drags() {
        WreckSky x = new WreckSky();
        is("8: the most", x.drag(100), 0);
        is("8: the least", x.drag(0), 100);
        is("8: one more than the least", x.drag(1), 0);
        is("8: one less than the most", x.drag(99), 1);
        is("8: is", x.count(2), 99);
        EDGE.outside("8: v", 0, 100, v -> y -> y.drag(v));
    }

    // ---- promise 9

    // "WRECKS that are UP at a HEIGHT and PLACE ... BAD."
    private static void promise9HeightsAndPlaces() {
        WreckSky x = with(0, 0, 0, 0, 5, 0, 7, 29, 0, 5, 0, 0, 29, 0, 5, 0, 7, 0, 0, 5);
        is("9: the least of both", x.at(0, 0), 1);
        is("9: the most of both", x.at(7, 29), 2);
        is("9: the last place below", x.at(0, 29), 4);
        is("9: the first place on top", x.at(7, 0), 8);
        EDGE.outside("9: height", 0, 7, v -> y -> y.at(v, 0));
        EDGE.outside("9: place", 0, 29, v -> y -> y.at(0, v));
    }

    // "as a set": none of them, one, all fourteen; only those that are UP.
    private static void promise9Sets() {
        is("9: in an empty sky", new WreckSky().at(0, 0), 0);
        WreckSky x = new WreckSky();
        for (int i = 0; i < 14; i++) {
            x.wreck(0, 5, 6, 0, 5);
        }
        is("9: all", x.at(5, 6), (1 << 14) - 1);
        for (int i = 0; i < 13; i++) {
            x.sweep(i);
        }
        is("9: the last", x.at(5, 6), 1 << 13);
        x.sweep(13);
        is("9: none is up", x.at(5, 6), 0);
    }

    // ---- promise 10

    // "WRECKS are drawn, n (1 .. 14) of them ... BAD."
    private static void promise10Numbers() {
        is("10: the least", new WreckSky().deal(1), 1);
        is("10: the most", new WreckSky().deal(14), 14);
        EDGE.outside("10: n", 1, 14, v -> x -> x.deal(v));
        EDGE.outside("10: n without room", Edge::crowded, 1, 14, v -> x -> x.deal(v));
    }

    private static int afterDraws(int z, int many) {
        for (int i = 0; i < many; i++) {
            z = Edge.after(z);
        }
        return z;
    }

    // "as many as there is room for (no draws for others): how many came."
    private static void promise10Room() {
        for (int there = 0; there <= 14; there++) {
            WreckSky x = new WreckSky();
            for (int i = 0; i < there; i++) {
                x.wreck(0, 0, i, 0, 1);
            }
            int came = Math.min(14 - there, 5);
            is("10: came to " + there, x.deal(5), came);
            is("10: are, of " + there, x.count(0), there + came);
            is("10: draws for " + there, x.count(7), afterDraws(1, 5 * came));
        }
        EDGE.leaves("10: no room", Edge::crowded, x -> x.deal(14), 0);
    }

    // "KIND the rest of a draw by 6, HEIGHT that of one more by 8, PLACE ... by 30, PACE ... by 19, less 9, MASS 1 and ... by 30."
    private static void promise10DrawnWithin() {
        int[] by = {6, 8, 30, 19, 30};
        int[] least = {0, 0, 0, -9, 1};
        for (int what = 0; what < 5; what++) {
            for (int rest : new int[] {0, by[what] - 1}) {
                int seed = LOW;
                while (Edge.drawn(afterDraws(seed, what + 1)) % by[what] != rest) {
                    seed++;
                }
                WreckSky x = new WreckSky();
                x.seed(seed);
                x.deal(1);
                is("10: the rest " + rest + " for what " + what, x.told(0, what), least[what] + rest);
                is("10: up", x.told(0, 5), 1);
            }
        }
    }

    // ---- promise 11

    // "z becomes v: what it was." (Any v; nothing is refused.)
    private static void promise11AnyNumber() {
        WreckSky x = new WreckSky();
        int was = 1;
        for (int v : new int[] {LOW, HIGH, 0, -1, 1, BAD, NONE}) {
            is("11: what it was", x.seed(v), was);
            is("11: is", x.count(7), v);
            was = v;
        }
    }

    // ---- promise 12

    // "n (1 .. 100) HOURS ... BAD."
    private static void promise12Numbers() {
        WreckSky x = with(0, 0, 0, 1, 5);
        is("12: one hour", x.hours(1), 0);
        is("12: one hour", x.count(1), 1);
        is("12: a hundred", x.hours(100), 0);
        is("12: a hundred", x.count(1), 101);
        EDGE.outside("12: n", 1, 100, v -> y -> y.hours(v));
    }

    // "(no more than up to 9999)"; "THE HOUR is 0 at first, 9999 at most."
    private static void promise12UpTo9999() {
        WreckSky x = Edge.at(9998, with(0, 0, 0, 1, 5));
        is("12: the last one", x.hours(1), 0);
        is("12: 9999", x.count(1), 9999);
        is("12: gone round", x.told(0, 2), 9999 % 30);
        WreckSky y = Edge.at(9950, with(0, 0, 0, 1, 5));
        int z = y.count(7);
        y.hours(50);
        is("12: more than up to 9999", y.count(1), 9999);
        is("12: forty-nine went by", y.told(0, 2), 9999 % 30);
        is("12: forty-nine draws", y.count(7), afterDraws(z, 49));
        WreckSky all = Edge.at(9899, with(0, 0, 0, 1, 5));
        all.hours(100);
        is("12: just a hundred", all.count(1), 9999);
    }

    // "(no more than up to 9999)": then none, and nothing changes.
    private static void promise12AlreadyAt9999() {
        EDGE.leaves("12: at 9999", EdgesWrecksTest::late, x -> x.hours(1), 0);
        EDGE.leaves("12: at 9999", EdgesWrecksTest::late, x -> x.hours(100), 0);
        EDGE.leaves("12: bad at 9999", EdgesWrecksTest::late, x -> x.hours(0), BAD);
    }

    private static WreckSky late() {
        WreckSky x = Edge.at(9999, with(0, 0, 0, 1, 5, 2, 1, 0, 1, 5));
        x.set(0, 1, 1);
        x.set(0, 2, 0);
        x.set(1, 2, 0);
        x.drag(100);
        return x;
    }

    // "BROKEN in them."
    private static void promise12BrokenInThemAlone() {
        WreckSky x = with(0, 0, 0, 1, 5, 0, 0, 1, 0, 1, 0, 0, 3, 0, 1);
        is("12: in the first", x.hours(1), 1);
        is("12: in the second", x.hours(1), 0);
        is("12: in the third", x.hours(1), 1);
        is("12: in all", x.sky(0), 2);
    }

    // "GOES (PLACES in an hour, round)": over 29 to 0, and below 0 to 29.
    private static void promise12GoesRound() {
        int[][] ways = {{0, 29, 1, 0}, {0, 0, -1, 29}, {0, 29, 9, 8}, {0, 0, -9, 21}, {0, 28, 1, 29}, {0, 1, -1, 0}, {0, 21, 9, 0},
            {0, 20, 9, 29}, {0, 9, -9, 0}, {0, 8, -9, 29}, {2, 20, 9, 0}, {2, 29, 9, 9}, {4, 0, 9, 20}, {4, 10, 9, 0}, {4, 9, 9, 29},
            {4, 22, -9, 0}, {2, 0, -9, 22}, {5, 29, 0, 0}, {0, 0, 0, 0}, {0, 29, 0, 29}};
        for (int[] way : ways) {
            WreckSky x = with(way[0], 0, way[1], way[2], 5);
            x.hours(1);
            is("12: kind " + way[0] + " from " + way[1] + " with pace " + way[2], x.told(0, 2), way[3]);
        }
    }

    // "(1) Each WRECK that is UP goes what it GOES."
    private static void promise12GoneOnesStay() {
        WreckSky x = with(0, 0, 7, 3, 5, 5, 0, 20, 0, 5);
        x.sweep(0);
        x.sweep(1);
        x.hours(1);
        is("12: a gone one stays", x.told(0, 2), 7);
        is("12: a gone dead one stays", x.told(1, 2), 20);
    }

    // "Of any two with numbers as there were ahead of (2)": what breaks off meets none in the same hour.
    private static void promise12NumbersAheadOfMeeting() {
        WreckSky x = with(0, 0, 0, 0, 50, 0, 0, 0, 0, 10);
        is("12: one meeting, not three", x.hours(1), 1);
        is("12: what broke off is whole", x.told(2, 4), 5);
        is("12: the first is whole", x.told(0, 4), 50);
        // 2 went away; 0 and 1 meet again.
        is("12: again", x.hours(1), 1);
        is("12: there are four", x.count(0), 4);
    }

    // "by the lesser number, then by the other one, both UP by then, at one HEIGHT and PLACE".
    private static void promise12BothUpByThen() {
        // 1 breaks on 0 and is GONE, so that it never meets 2.
        WreckSky x = with(0, 0, 0, 0, 1, 0, 0, 0, 0, 1, 0, 0, 0, 0, 1);
        is("12: 1 and 2 break on 0", x.hours(1), 2);
        is("12: 0 is up", x.sky(3), 1);
        // 0 breaks on 1 and is GONE; 2 then breaks on 1, never on 0.
        WreckSky y = with(0, 0, 0, 0, 1, 0, 0, 0, 0, 9, 0, 0, 0, 0, 1);
        is("12: 0 and 2 break on 1", y.hours(1), 2);
        is("12: 1 is up", y.sky(3), 2);
        WreckSky gone = with(0, 0, 0, 0, 5, 0, 0, 0, 0, 5);
        gone.sweep(1);
        is("12: not with a gone one", gone.hours(1), 0);
        gone.set(1, 5, 1);
        gone.sweep(0);
        is("12: not with a gone one ahead", gone.hours(1), 0);
        is("12: not at another height", with(0, 6, 0, 0, 5, 0, 7, 0, 0, 5).hours(1), 0);
        is("12: not at another place", with(0, 7, 29, 0, 5, 0, 7, 0, 0, 5).hours(1), 0);
        is("12: at the last height and place", with(0, 7, 29, 0, 5, 0, 7, 29, 0, 5).hours(1), 1);
        // By the order told: 0 with 1 (1 breaks: 20, 20), 0 with 2 (0 breaks: 25, 25), 1 with 2 (1 breaks: 10, 10).
        WreckSky order = with(0, 0, 0, 0, 50, 0, 0, 0, 0, 40, 0, 0, 0, 0, 60);
        is("12: three meetings", order.hours(1), 3);
        int[] masses = {25, 10, 60, 20, 25, 10};
        for (int i = 0; i < 6; i++) {
            is("12: by order, mass of " + i, order.told(i, 4), masses[i]);
        }
    }

    // "the less HARD one (of like ones the greater number) BREAKS".
    private static void promise12LikeOnes() {
        int[][] masses = {{5, 6, 0}, {6, 6, 1}, {7, 6, 1}, {1, 1, 1}, {99, 99, 1}, {98, 99, 0}};
        for (int[] m : masses) {
            WreckSky x = with(0, 0, 0, 0, m[0], 0, 0, 0, 0, m[1]);
            x.hours(1);
            int other = 1 - m[2];
            is("12: " + m[0] + " on " + m[1] + ", the other is whole", x.told(other, 4), m[other]);
            is("12: " + m[0] + " on " + m[1] + ", one breaks", x.told(m[2], 4) < m[m[2]] || x.told(m[2], 5) == 0 ? 1 : 0, 1);
        }
        // Held at 999 both are like ones, by MASS they would not be.
        WreckSky held = with(0, 0, 0, 0, 10, 0, 0, 0, 0, 90);
        Due.text(held, "hard m*100");
        held.hours(1);
        is("12: like ones at 999", held.told(1, 4), 45);
    }

    // "with MASS 1 it is GONE".
    private static void promise12MassOne() {
        WreckSky x = with(0, 0, 0, 0, 9, 0, 0, 0, 0, 1);
        is("12: it breaks", x.hours(1), 1);
        is("12: it is gone", x.told(1, 5), 0);
        is("12: its mass", x.told(1, 4), 1);
        is("12: nothing breaks off", x.count(0), 2);
        is("12: not burnt", x.sky(1), 0);
        is("12: not swept", x.sky(2), 0);
    }

    // "else it keeps half (cut) of its MASS, and what is lacking is one more WRECK (a BOLT; UP, at the same HEIGHT and PLACE)".
    private static void promise12HalfIsCut() {
        int[][] halves = {{2, 1, 1}, {3, 1, 2}, {4, 2, 2}, {98, 49, 49}};
        for (int[] h : halves) {
            WreckSky x = with(0, 6, 28, 0, 99, 0, 6, 28, 0, h[0]);
            x.hours(1);
            int[] piece = {2, 6, 28, 1, h[2], 1};
            is("12: half of " + h[0], x.told(1, 4), h[1]);
            is("12: up still", x.told(1, 5), 1);
            for (int what = 0; what < 6; what++) {
                is("12: what broke off of " + h[0] + ", " + what, x.told(2, what), piece[what]);
            }
        }
        WreckSky most = with(0, 6, 28, 0, 99, 0, 6, 28, 0, 99);
        most.hours(1);
        is("12: half of 99", most.told(1, 4), 49);
        is("12: the rest of 99", most.told(2, 4), 50);
    }

    // "PACE 1 more than its, 9 at most".
    private static void promise12PaceNineAtMost() {
        int[][] paces = {{-9, -8}, {-1, 0}, {0, 1}, {7, 8}, {8, 9}, {9, 9}};
        for (int[] p : paces) {
            WreckSky x = with(0, 0, 10, 0, 99, 0, 0, Math.floorMod(10 - p[0], 30), p[0], 8);
            x.hours(1);
            is("12: pace " + p[0], x.told(2, 3), p[1]);
            is("12: its own stays", x.told(1, 3), p[0]);
        }
    }

    private static WreckSky pairs(int there) {
        WreckSky x = with(0, 0, 0, 0, 50, 0, 0, 0, 0, 9, 0, 1, 0, 0, 50, 0, 1, 0, 0, 9);
        for (int i = 4; i < there; i++) {
            x.wreck(0, 7, i, 0, 1);
        }
        return x;
    }

    // "is one more WRECK ... if there is room (else that is lost)."
    private static void promise12IfThereIsRoom() {
        for (int there = 11; there <= 14; there++) {
            WreckSky x = pairs(there);
            is("12: two break, of " + there, x.hours(1), 2);
            is("12: are then, of " + there, x.count(0), Math.min(14, there + 2));
            is("12: the first half", x.told(1, 4), 4);
            is("12: the second half", x.told(3, 4), 4);
            is("12: masses, of " + there, x.sky(4), 118 + there - 4 - 5 * Math.max(0, there - 12));
        }
        WreckSky gone = pairs(14);
        gone.sweep(13);
        gone.hours(1);
        is("12: a gone one keeps its room", gone.told(13, 5), 0);
        is("12: that is lost", gone.sky(4), 118 + 9 - 10);
    }

    // "A draw; if its rest by 100 is below DRAG, one more draw". The first draw from 1 is 4310654: its rest is 54.
    private static void promise12RestBelowDrag() {
        int[][] drags = {{0, 0}, {54, 0}, {55, 1}, {100, 1}};
        for (int[] d : drags) {
            WreckSky x = with(0, 5, 0, 0, 5);
            x.drag(d[0]);
            x.hours(1);
            is("12: height with drag " + d[0], x.told(0, 1), 5 - d[1]);
            is("12: draws with drag " + d[0], x.count(7), afterDraws(1, 1 + d[1]));
        }
        restAgainst(0, 0, 0);
        restAgainst(0, 1, 1);
        restAgainst(99, 99, 0);
        restAgainst(99, 100, 1);
    }

    private static void restAgainst(int rest, int drag, int sinks) {
        int seed = 1;
        while (Edge.drawn(Edge.after(seed)) % 100 != rest) {
            seed++;
        }
        WreckSky x = with(0, 5, 0, 0, 5);
        x.seed(seed);
        x.drag(drag);
        x.hours(1);
        is("12: rest " + rest + " with drag " + drag, x.told(0, 1), 5 - sinks);
    }

    // "the WRECK that is its rest by how many there are (nothing without)".
    private static void promise12NothingWithoutWrecks() {
        WreckSky x = new WreckSky();
        x.drag(100);
        is("12: no wrecks", x.hours(1), 0);
        is("12: one draw without wrecks", x.count(7), afterDraws(1, 1));
        x.hours(100);
        is("12: one draw an hour", x.count(7), afterDraws(1, 101));
        is("12: nothing burns", x.sky(1), 0);
        // How many there are: those that broke off in this hour too.
        for (int which = 0; which < 3; which++) {
            WreckSky y = with(0, 5, 0, 0, 50, 0, 5, 0, 0, 8);
            y.drag(100);
            y.seed(Edge.sinksFirst(1, 100, which, 3));
            y.hours(1);
            for (int i = 0; i < 3; i++) {
                is("12: " + which + " sinks of three, height of " + i, y.told(i, 1), i == which ? 4 : 5);
            }
        }
        for (int which : new int[] {0, 13}) {
            WreckSky y = Edge.crowded();
            y.drag(100);
            y.set(which, 1, 7);
            y.seed(Edge.sinksFirst(1, 100, which, 14));
            y.hours(1);
            is("12: of fourteen", y.told(which, 1), 6);
        }
    }

    // "if it is UP, is at the HEIGHT below".
    private static void promise12SinksIfUp() {
        WreckSky x = with(0, 5, 0, 0, 5);
        x.sweep(0);
        x.drag(100);
        x.hours(1);
        is("12: a gone one is drawn", x.count(7), afterDraws(1, 2));
        is("12: it does not sink", x.told(0, 1), 5);
        x.set(0, 1, 0);
        x.hours(1);
        is("12: it does not burn", x.sky(1), 0);
    }

    // "is at the HEIGHT below; at HEIGHT 0 it is GONE (BURNT 1 more)."
    private static void promise12HeightBelow() {
        WreckSky x = with(0, 7, 0, 0, 5);
        x.drag(100);
        for (int height = 6; height >= 0; height--) {
            x.hours(1);
            is("12: height", x.told(0, 1), height);
            is("12: up", x.told(0, 5), 1);
            is("12: burnt", x.sky(1), 0);
        }
        x.hours(1);
        is("12: gone", x.told(0, 5), 0);
        is("12: burnt", x.sky(1), 1);
        is("12: height 0 still", x.told(0, 1), 0);
        x.hours(100);
        is("12: burnt once", x.sky(1), 1);
    }

    // "z becomes z * 1103515245 + 12345 (an int); it gives z >>> 8."
    private static void promise12DrawsAreInts() {
        for (int seed : new int[] {LOW, HIGH, 0, -1, 1}) {
            WreckSky x = new WreckSky();
            x.seed(seed);
            x.hours(1);
            is("12: z behind " + seed, x.count(7), (int) ((long) seed * 1103515245L + 12345L));
        }
        // A z below 0: what it gives is not below 0, so its rest is none that would always be below DRAG.
        int seed = 1;
        while (Edge.after(seed) >= 0 || Edge.drawn(Edge.after(seed)) % 100 != 50) {
            seed++;
        }
        WreckSky x = with(0, 5, 0, 0, 5);
        x.seed(seed);
        x.drag(50);
        x.hours(1);
        is("12: a z below 0", x.told(0, 1), 5);
        x.seed(seed);
        x.drag(51);
        x.hours(1);
        is("12: a z below 0", x.told(0, 1), 4);
    }

    // ---- promise 13

    // "What is 0 BROKEN, ... 5 HEIGHTS ... BAD."
    private static void promise13Whats() {
        is("13: what 0", with(0, 0, 0, 0, 5).sky(0), 0);
        is("13: what 5", with(0, 7, 0, 0, 5).sky(5), 128);
        EDGE.outside("13: what", 0, 5, v -> x -> x.sky(v));
    }

    // "3 those that are UP, as a set, 4 MASS of these, together, 5 HEIGHTS at which one is UP, as a set."
    private static void promise13EmptyAndFull() {
        WreckSky x = new WreckSky();
        for (int i = 0; i < 14; i++) {
            x.wreck(0, i % 8, i, 0, 99);
        }
        is("13: all are up", x.sky(3), (1 << 14) - 1);
        is("13: all masses", x.sky(4), 14 * 99);
        is("13: all heights", x.sky(5), 255);
        for (int i = 0; i < 13; i++) {
            x.sweep(i);
        }
        is("13: the last is up", x.sky(3), 1 << 13);
        is("13: its mass", x.sky(4), 99);
        is("13: its height", x.sky(5), 1 << 13 % 8);
        x.sweep(13);
        is("13: none is up", x.sky(3), 0);
        is("13: no mass", x.sky(4), 0);
        is("13: no heights", x.sky(5), 0);
        is("13: swept", x.sky(2), 14);
        EDGE.leaves("13: asking", y -> y.sky(4), Edge.rich().sky(4));
    }
}

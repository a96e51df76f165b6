/**
 * The boundary cases of promises 14 to 22 and of the document's part 3: a method for each sentence that names one, with
 * the promise's number in its name and the sentence above it.
 */
public final class EdgesAheadTest {
    private static final int BAD = Edge.BAD, NONE = Edge.NONE, NOTHING = Edge.NOTHING, LOW = Edge.LOW, HIGH = Edge.HIGH;
    private static final Edge EDGE = new Edge("EdgesAheadTest");

    public static void main(String[] args) {
        promises14To22NothingChanges();
        promises14To22WithoutTheBoundOfTheHour();
        promise14Hours();
        promise14Whats();
        promise14WreckThatIsNotThereYet();
        promise14UpAtMostFourteen();
        promise15OneTo200();
        promise15MoreThanNow();
        promise15NotByThen();
        promise16Places();
        promise16LeastHour();
        promise16Heights();
        promise16OnlyThoseThatAreUp();
        promise16NoneAtAll();
        promise17Numbers();
        promise17JustThen();
        promise18Numbers();
        promise18Whats();
        promise18NoneIsUp();
        promise18TheLeastOfSeveral();
        promise19Wrecks();
        promise19Numbers();
        promise19Whats();
        promise19Paces();
        promise20Numbers();
        promise20Whats();
        promise20Places();
        promise20EndsOfHours();
        promise20NoneIsUp();
        promise21Wrecks();
        promise21Numbers();
        promise21WayRound();
        promise21OnlyWhileUp();
        promise21NoneEver();
        promise21WhatBreaksOff();
        promise22Sheets();
        promise22Whats();
        promise22Missing();
        promise22NoWrecks();
        promise22Places();
        promise22NumbersByRests();
        promise22NoNumber();
        promise22NearerWay();
        promise22TheLeastOfSeveral();
        EDGE.end();
    }

    private static void is(String what, int got, int want) {
        EDGE.is(what, got, want);
    }

    private static WreckSky with(int... wrecks) {
        return Edge.with(wrecks);
    }

    /** Two that stand over each other; the upper one sinks, so that they meet in that HOUR first. */
    private static WreckSky meeting(int hour) {
        return Edge.sinking(with(0, 0, 9, 0, 50, 0, 1, 9, 0, 7), hour - 1, 2, 1);
    }

    /** One at HEIGHT 0, PLACE 9, that burns in that HOUR. */
    private static WreckSky burning(int hour) {
        return Edge.sinking(with(0, 0, 9, 0, 5), hour, 2, 0);
    }

    // "(All this is only thought, z as it is ...: nothing changes.)"
    private static void promises14To22NothingChanges() {
        EDGE.asks("14: behind", x -> x.behind(100, 0));
        EDGE.asks("14: behind", x -> x.behind(100, 3));
        EDGE.asks("15: first", x -> x.first());
        EDGE.asks("16: hole", x -> x.hole(3));
        EDGE.asks("17: open", x -> x.open(0));
        EDGE.asks("18: best", x -> x.best(60, 0));
        EDGE.asks("19: push", x -> x.push(0, 60, 0));
        EDGE.asks("20: under", x -> x.under(100, 0));
        EDGE.asks("21: nearest", x -> x.nearest(0, 100));
        EDGE.asks("22: seen", x -> x.seen(0, 0));
    }

    /** At 9999; 0 goes by 1 from PLACE 0, 1 stands at 2 where 0 comes to behind 2 HOURS, both at HEIGHT 0. */
    private static WreckSky late() {
        WreckSky x = Edge.at(9999, with(0, 0, 0, 1, 5, 0, 1, 2, 0, 1));
        x.set(0, 2, 0);
        x.set(1, 1, 0);
        return x;
    }

    // "(All this is only thought, ... without the bound of THE HOUR ...)"
    private static void promises14To22WithoutTheBoundOfTheHour() {
        WreckSky x = late();
        is("14: place at 9999", x.behind(1, 3), 1);
        is("14: place at 9999", x.behind(100, 3), 10);
        is("14: broken at 9999", x.behind(2, 0), 1);
        is("15: first at 9999", x.first(), 2);
        is("16: hole at 9999", x.hole(2), 2 + 1);
        is("17: open at 9999", x.open(3), 1);
        is("18: best at 9999", x.best(2, 1), 0);
        is("18: broken already", x.best(1, 0), 0);
        is("19: push at 9999", x.push(0, 2, 0), -9);
        is("19: a pace that would meet", x.push(1, 1, 0), -9);
        is("20: under at 9999", x.under(1, 0), 1);
        is("20: under at 9999", x.under(2, 1), 2);
        is("21: nearest at 9999", x.nearest(0, 0), 2);
        is("21: nearest at 9999", x.nearest(0, 1), 1);
        x.sheet(0, 0, 3);
        x.mark(0, 1, 1);
        x.mark(0, 2, 2);
        is("22: seen at 9999", x.seen(0, 0), 0);
        is("22: seen at 9999", x.seen(0, 1), 0);
        is("14: the hour stays", x.count(1), 9999);
        // An OWNED one stands in the HOUR from 9999, which is odd, and goes in the next.
        WreckSky owned = Edge.at(9999, with(3, 0, 0, 1, 5));
        owned.set(0, 2, 0);
        is("14: owned at 9999", owned.behind(1, 3), 0);
        is("14: owned at 10000", owned.behind(2, 3), 1);
        is("14: owned at 10001", owned.behind(3, 3), 1);
    }

    // ---- promise 14

    // "BEHIND n (0 .. 100) HOURS".
    private static void promise14Hours() {
        EDGE.outside("14: n", 0, 100, v -> x -> x.behind(v, 0));
        WreckSky x = with(0, 3, 29, 1, 5);
        is("14: now", x.behind(0, 3), 29);
        is("14: an hour on", x.behind(1, 3), 0);
        is("14: a hundred", x.behind(100, 3), (29 + 100) % 30);
        is("14: broken in the 100th", meeting(100).behind(100, 0), 1);
        is("14: broken in the 100th, not by the 99th", meeting(100).behind(99, 0), 0);
        is("14: broken in the 101st", meeting(101).behind(100, 0), 0);
        is("14: burnt in the 100th", burning(100).behind(100, 1), 1);
        is("14: burnt in the 100th, none is up", burning(100).behind(100, 2), 0);
        is("14: burnt in the 101st", burning(101).behind(100, 1), 0);
        is("14: burnt in the 101st, one is up", burning(101).behind(100, 2), 1);
        WreckSky broken = with(0, 0, 0, 0, 5, 0, 0, 0, 0, 1);
        broken.hours(1);
        is("14: broken by now", broken.behind(0, 0), 1);
        is("14: broken by now, and none more", broken.behind(100, 0), 1);
        is("14: up by now", broken.behind(0, 2), 1);
    }

    // "what 0 BROKEN, 1 BURNT, 2 how many are UP; 3 and k: PLACE of WRECK k. BAD."
    private static void promise14Whats() {
        EDGE.outside("14: what, of five", 0, 7, v -> x -> x.behind(1, v));
        EDGE.outside("14: what, of fourteen", Edge::crowded, 0, 16, v -> x -> x.behind(1, v));
        EDGE.outside("14: what, of none", WreckSky::new, 0, 2, v -> x -> x.behind(1, v));
        is("14: up, of none", new WreckSky().behind(100, 2), 0);
        is("14: place of the first", Edge.crowded().behind(1, 3), 0);
        is("14: place of the last", Edge.crowded().behind(1, 16), 26);
        WreckSky gone = with(0, 0, 7, 1, 5);
        gone.sweep(0);
        is("14: place of a gone one", gone.behind(100, 3), 7);
    }

    // "3 and k: PLACE of WRECK k. BAD.": one that only will break off is none that there is.
    private static void promise14WreckThatIsNotThereYet() {
        WreckSky x = with(0, 0, 0, 0, 50, 0, 0, 0, 0, 8);
        is("14: it will be there", x.behind(1, 2), 3);
        is("14: it is not there yet", x.behind(1, 5), BAD);
        x.hours(1);
        is("14: it is there", x.behind(0, 5), 0);
        is("14: it goes", x.behind(1, 5), 2);
    }

    // "2 how many are UP", with "WRECKS, 14 at most".
    private static void promise14UpAtMostFourteen() {
        WreckSky x = Edge.crowded();
        is("14: all are up", x.behind(100, 2), 14);
        x.set(13, 1, 0);
        x.set(13, 2, 0);
        is("14: one breaks", x.behind(1, 0), 1);
        is("14: there is no room for more", x.behind(1, 2), 14);
    }

    // ---- promise 15

    // "FIRST: behind how many HOURS (1 .. 200) BROKEN are more than now first."
    private static void promise15OneTo200() {
        is("15: at once", with(0, 0, 0, 0, 5, 0, 0, 0, 0, 5).first(), 1);
        is("15: in the next one", meeting(2).first(), 2);
        is("15: in the 199th", meeting(199).first(), 199);
        is("15: in the 200th", meeting(200).first(), 200);
        is("15: in the 201st", meeting(201).first(), NONE);
    }

    // "BROKEN are more than now": those that broke by now do not count.
    private static void promise15MoreThanNow() {
        WreckSky x = with(0, 0, 0, 0, 5, 0, 0, 0, 0, 1, 0, 1, 0, 1, 5, 0, 1, 3, 0, 1);
        x.hours(1);
        is("15: one broke", x.sky(0), 1);
        is("15: the next one", x.first(), 2);
        x.hours(2);
        is("15: two broke, no more do", x.first(), NONE);
    }

    // "NONE: not by then."
    private static void promise15NotByThen() {
        is("15: without wrecks", new WreckSky().first(), NONE);
        is("15: of one", with(0, 0, 0, 0, 5).first(), NONE);
        is("15: of fourteen", Edge.crowded().first(), NONE);
        WreckSky gone = with(0, 0, 0, 0, 5, 0, 0, 0, 0, 5);
        gone.sweep(0);
        is("15: of one that is up", gone.first(), NONE);
    }

    // ---- promise 16

    // "HOLE of a PLACE. BAD".
    private static void promise16Places() {
        EDGE.outside("16: place", 0, 29, v -> x -> x.hole(v));
        is("16: without wrecks", new WreckSky().hole(0), 0);
        is("16: without wrecks", new WreckSky().hole(29), 0);
        WreckSky x = with(0, 0, 0, -1, 5);
        is("16: under it, at place 0", x.hole(0), 1);
        is("16: where it comes to, place 29", x.hole(29), 0);
        x.set(0, 2, 29);
        is("16: under it, at place 29", x.hole(29), 1);
    }

    // "the least k 0 .. 60".
    private static void promise16LeastHour() {
        is("16: at once", burning(1).hole(8), 0);
        is("16: behind one", burning(1).hole(9), 1);
        is("16: behind 59", burning(59).hole(9), 59);
        is("16: behind 60", burning(60).hole(9), 60);
        is("16: behind 61", burning(61).hole(9), NONE);
    }

    // "one who is at HEIGHT h behind k and h HOURS (h from 0 to 7) at that PLACE".
    private static void promise16Heights() {
        for (int h = 0; h <= 7; h++) {
            // It comes to PLACE 10 behind just h HOURS.
            WreckSky x = with(0, h, 10 - h, 1, 5);
            is("16: met at height " + h, x.hole(10), 1);
            is("16: it has gone by, height " + h, x.hole(9), 0);
            is("16: it comes too late, height " + h, x.hole(11), 0);
        }
        // At HEIGHT 7 up to the HOUR in which it sinks; then it is too high for one at HEIGHT 6 an HOUR before.
        is("16: the last of all hours", Edge.sinking(with(0, 7, 9, 0, 5), 67, 2, 0).hole(9), 60);
        is("16: an hour too late", Edge.sinking(with(0, 7, 9, 0, 5), 68, 2, 0).hole(9), NONE);
    }

    // "never meets a WRECK that is UP there then".
    private static void promise16OnlyThoseThatAreUp() {
        WreckSky x = with(0, 0, 4, 0, 5);
        is("16: up", x.hole(4), NONE);
        x.sweep(0);
        is("16: gone", x.hole(4), 0);
    }

    // "NONE: none."
    private static void promise16NoneAtAll() {
        for (int h = 0; h <= 7; h++) {
            is("16: one stands there, height " + h, with(0, h, 4, 0, 5).hole(4), NONE);
            is("16: beside it, height " + h, with(0, h, 4, 0, 5).hole(5), 0);
        }
    }

    // ---- promise 17

    // "OPEN for n (0 .. 60). BAD."
    private static void promise17Numbers() {
        EDGE.outside("17: n", 0, 60, v -> x -> x.open(v));
        is("17: all at once", new WreckSky().open(0), 30);
        is("17: none later", new WreckSky().open(1), 0);
        is("17: none at last", new WreckSky().open(60), 0);
        is("17: one in the 60th", burning(60).open(60), 1);
        is("17: the others at once", burning(60).open(0), 29);
        is("17: that is none of the 59th", burning(60).open(59), 0);
        is("17: none in the 60th", burning(61).open(60), 0);
    }

    // "how many of the PLACES have a HOLE with just k = n": PLACE 0 and PLACE 29 too, and never those without.
    private static void promise17JustThen() {
        WreckSky x = new WreckSky();
        for (int place : new int[] {0, 1, 28, 29}) {
            x.wreck(0, 0, place, 0, 5);
        }
        is("17: without four", x.open(0), 26);
        int later = 0;
        for (int n = 1; n <= 60; n++) {
            later += x.open(n);
        }
        is("17: those never", later, 0);
        for (int place : new int[] {0, 29}) {
            WreckSky y = with(0, 0, place, place == 0 ? -1 : 1, 5);
            is("17: under place " + place, y.open(1), 1);
            is("17: all but place " + place, y.open(0), 29);
        }
    }

    // ---- promise 18

    /** 2 and 3 meet at once (3 is GONE then), 0 and 1 in that HOUR. */
    private static WreckSky twoPairs(int hour) {
        WreckSky x = with(0, 0, 9, 0, 50, 0, 1, 9, 0, 7, 0, 0, 20, 0, 50, 0, 0, 20, 0, 1);
        return Edge.sinking(x, hour - 1, 2, 1);
    }

    // "SWEPT BEST for n (1 .. 60)".
    private static void promise18Numbers() {
        EDGE.outside("18: n", 1, 60, v -> x -> x.best(v, 0));
        is("18: the first hour counts", twoPairs(61).best(1, 0), 2);
        is("18: the first hour counts", twoPairs(61).best(1, 1), 0);
        is("18: the 60th counts", twoPairs(60).best(60, 0), 0);
        is("18: the 60th counts", twoPairs(60).best(60, 1), 1);
        is("18: the 60th is behind 59", twoPairs(60).best(59, 0), 2);
        is("18: the 60th is behind 59", twoPairs(60).best(59, 1), 0);
        is("18: the 61st does not", twoPairs(61).best(60, 0), 2);
        is("18: the 61st does not", twoPairs(61).best(60, 1), 0);
    }

    // "what 0 the WRECK, 1 BROKEN. BAD".
    private static void promise18Whats() {
        EDGE.outside("18: what", 0, 1, v -> x -> x.best(1, v));
        EDGE.outside("18: what, none is up", WreckSky::new, 0, 1, v -> x -> x.best(1, v));
        EDGE.outside("18: n, none is up", WreckSky::new, 1, 60, v -> x -> x.best(v, 0));
        WreckSky broken = with(0, 0, 0, 0, 5, 0, 0, 0, 0, 1);
        broken.hours(1);
        is("18: broken by now too", broken.best(60, 1), 1);
    }

    // "NONE: none is UP."
    private static void promise18NoneIsUp() {
        is("18: without wrecks", new WreckSky().best(1, 0), NONE);
        is("18: without wrecks", new WreckSky().best(60, 1), NONE);
        WreckSky x = with(0, 0, 0, 0, 5, 0, 0, 0, 0, 5);
        x.sweep(0);
        is("18: one is up", x.best(60, 0), 1);
        is("18: one is up", x.best(60, 1), 0);
        x.sweep(1);
        is("18: all are gone", x.best(60, 0), NONE);
        is("18: all are gone", x.best(60, 1), NONE);
    }

    // "the WRECK that is UP without which ... are fewest; of several the least."
    private static void promise18TheLeastOfSeveral() {
        WreckSky x = Edge.crowded();
        is("18: all alike", x.best(60, 0), 0);
        x.sweep(0);
        is("18: all alike but the gone one", x.best(60, 0), 1);
        is("18: one alone", with(0, 0, 0, 0, 5).best(60, 0), 0);
        WreckSky last = Edge.crowded();
        last.set(13, 1, 0);
        last.set(13, 2, 0);
        is("18: of a pair the lesser", last.best(1, 0), 0);
        // 13 goes over 0 and over 8 (both at HEIGHT 0): only without it nothing breaks.
        last.set(13, 2, 28);
        last.set(13, 3, 1);
        last.set(8, 2, 1);
        last.set(13, 4, 1);
        last.set(0, 4, 2);
        is("18: the last alone", last.best(3, 0), 13);
        is("18: the last alone", last.best(3, 1), 0);
    }

    // ---- promise 19

    // "PUSH of a WRECK ... BAD."
    private static void promise19Wrecks() {
        EDGE.outside("19: wreck", 0, 4, v -> x -> x.push(v, 1, 0));
        EDGE.outside("19: wreck of none", WreckSky::new, 0, -1, v -> x -> x.push(v, 1, 0));
        is("19: the first", Edge.crowded().push(0, 1, 1), 0);
        is("19: the last", Edge.crowded().push(13, 1, 1), 0);
        WreckSky gone = with(0, 0, 0, 0, 5, 0, 0, 21, 0, 5);
        gone.sweep(0);
        is("19: a gone one meets none", gone.push(0, 60, 0), -9);
    }

    // "for n (1 .. 60)". WRECK 2 is by itself; 0 and 1 meet in one HOUR.
    private static void promise19Numbers() {
        EDGE.outside("19: n", 1, 60, v -> x -> x.push(0, v, 0));
        for (int hour = 60; hour <= 61; hour++) {
            WreckSky x = Edge.sinking(with(0, 0, 9, 0, 50, 0, 1, 9, 0, 7, 0, 7, 0, 0, 5), hour - 1, 2, 1);
            is("19: the 60th counts, the 61st does not", x.push(2, 60, 1), 61 - hour);
        }
        is("19: the first counts", with(0, 0, 0, 0, 5, 0, 0, 21, 0, 5).push(0, 1, 0), -8);
    }

    // "what 0 PACE, 1 BROKEN. BAD."
    private static void promise19Whats() {
        EDGE.outside("19: what", 0, 1, v -> x -> x.push(0, 1, v));
        WreckSky broken = with(0, 0, 0, 0, 5, 0, 0, 0, 0, 1);
        broken.hours(1);
        is("19: broken by now too", broken.push(0, 60, 1), 1);
    }

    // "the PACE (-9 .. 9) with which BROKEN behind n HOURS are fewest; of several the least."
    private static void promise19Paces() {
        is("19: all alike", with(0, 0, 0, 0, 5).push(0, 60, 0), -9);
        for (int best = -9; best <= 9; best++) {
            is("19: pace " + best + " alone", blockedBut(best).push(0, 2, 0), best);
            is("19: with it none breaks", blockedBut(best).push(0, 2, 1), 0);
        }
        WreckSky own = with(0, 0, 0, 5, 5);
        is("19: its own pace is no better", own.push(0, 1, 0), -9);
        is("19: its own pace stays", own.told(0, 3), 5);
    }

    /**
     * At HEIGHT 0 others stand so that 0, from PLACE 0, meets one in the first HOUR or in the second with any other PACE;
     * those that stand in the way of two are taken first, so that they are few.
     */
    private static WreckSky blockedBut(int best) {
        boolean[] met = new boolean[19];
        met[best + 9] = true;
        WreckSky x = with(0, 0, 0, 0, 99);
        for (int least = 2; least >= 1; least--) {
            for (int place = 0; place < 30; place++) {
                int more = 0;
                for (int pace = -9; pace <= 9; pace++) {
                    more += !met[pace + 9] && passes(pace, place) ? 1 : 0;
                }
                if (more < least || passes(best, place)) continue;
                x.wreck(0, 0, place, 0, 50);
                for (int pace = -9; pace <= 9; pace++) {
                    met[pace + 9] |= passes(pace, place);
                }
            }
        }
        return x;
    }

    private static boolean passes(int pace, int place) {
        return Math.floorMod(pace, 30) == place || Math.floorMod(2 * pace, 30) == place;
    }

    // ---- promise 20

    // "UNDER for n (1 .. 100)".
    private static void promise20Numbers() {
        EDGE.outside("20: n", 1, 100, v -> x -> x.under(v, 0));
        is("20: one hour", with(0, 0, 9, 0, 5).under(1, 1), 1);
        is("20: a hundred", with(0, 0, 9, 0, 5).under(100, 1), 100);
    }

    // "what 0 the PLACE, 1 of how many. BAD."
    private static void promise20Whats() {
        EDGE.outside("20: what", 0, 1, v -> x -> x.under(1, v));
    }

    // "the PLACE ...; of several the least."
    private static void promise20Places() {
        for (int place = 0; place < 30; place++) {
            is("20: place " + place, with(0, 7, place, 0, 5).under(100, 0), place);
        }
        is("20: of all places the least", with(0, 0, 17, 1, 5).under(30, 0), 0);
        is("20: of all places but one", with(0, 0, 0, 1, 5).under(29, 0), 1);
        is("20: round to 0", with(0, 0, 29, 1, 5).under(1, 0), 0);
        is("20: round to 29", with(0, 0, 0, -1, 5).under(1, 0), 29);
        is("20: of two the least", with(0, 0, 29, 0, 5, 0, 0, 4, 0, 5).under(9, 0), 4);
    }

    // "over which (at any HEIGHT) a WRECK that is UP is at the end of most of n HOURS".
    private static void promise20EndsOfHours() {
        WreckSky x = with(0, 0, 9, 0, 5, 0, 7, 9, 0, 5, 0, 3, 9, 0, 5);
        is("20: three at one place are one", x.under(10, 1), 10);
        is("20: at the end, not at first", with(0, 0, 9, 1, 5).under(1, 0), 10);
        is("20: burnt in the 100th", burning(100).under(100, 1), 99);
        is("20: burnt in the 101st", burning(101).under(100, 1), 100);
        is("20: burnt at once", burning(1).under(100, 1), 0);
    }

    // Without one that is UP all PLACES are alike: the least, of 0.
    private static void promise20NoneIsUp() {
        is("20: without wrecks", new WreckSky().under(100, 0), 0);
        is("20: without wrecks", new WreckSky().under(100, 1), 0);
        WreckSky x = with(0, 0, 9, 0, 5);
        x.sweep(0);
        is("20: a gone one", x.under(100, 0), 0);
        is("20: a gone one", x.under(100, 1), 0);
    }

    // ---- promise 21

    // "NEAREST of a WRECK ... BAD".
    private static void promise21Wrecks() {
        EDGE.outside("21: wreck", 0, 4, v -> x -> x.nearest(v, 0));
        EDGE.outside("21: wreck of none", WreckSky::new, 0, -1, v -> x -> x.nearest(v, 0));
        // 5 and 13 are both at HEIGHT 5, at PLACES 10 and 26.
        is("21: the last", Edge.crowded().nearest(13, 0), 14);
        is("21: the first", Edge.crowded().nearest(0, 0), 14);
    }

    // "for n (0 .. 100)"; "behind any of 0 .. n HOURS".
    private static void promise21Numbers() {
        EDGE.outside("21: n", 0, 100, v -> x -> x.nearest(0, v));
        WreckSky x = with(0, 0, 0, 1, 5, 0, 0, 5, 0, 5);
        is("21: now", x.nearest(0, 0), 5);
        is("21: behind one", x.nearest(0, 1), 4);
        x.set(0, 3, -1);
        is("21: now it is nearest", x.nearest(0, 9), 5);
        // One sinks to the other one's HEIGHT in that HOUR.
        is("21: behind 100", meeting(101).nearest(0, 100), 0);
        is("21: behind 100", meeting(101).nearest(1, 100), 0);
        is("21: not behind 99", meeting(101).nearest(0, 99), NONE);
        is("21: behind 101", meeting(102).nearest(0, 100), NONE);
    }

    // "the least way round between its PLACE and that of another one".
    private static void promise21WayRound() {
        int[][] ways = {{0, 0, 0}, {0, 1, 1}, {0, 29, 1}, {29, 0, 1}, {0, 14, 14}, {0, 15, 15}, {0, 16, 14}, {29, 14, 15}, {29, 13, 14}};
        for (int[] w : ways) {
            WreckSky x = with(0, 0, w[0], 0, 5, 0, 0, w[1], 0, 5);
            is("21: from " + w[0] + " to " + w[1], x.nearest(0, 0), w[2]);
            is("21: from " + w[1] + " to " + w[0], x.nearest(1, 0), w[2]);
        }
        is("21: the nearer of two", with(0, 0, 0, 0, 5, 0, 0, 9, 0, 5, 0, 0, 27, 0, 5).nearest(0, 0), 3);
    }

    // "(only while it is UP)".
    private static void promise21OnlyWhileUp() {
        // 0 burns in the fifth HOUR, while 1 comes on from 20: it is 7 away behind 4 HOURS, 6 behind 5.
        WreckSky x = Edge.sinking(with(0, 0, 9, 0, 5, 0, 0, 20, -1, 5), 5, 2, 0);
        is("21: while it is up", x.nearest(0, 20), 7);
        is("21: while the other is up", x.nearest(1, 20), 7);
        WreckSky y = with(0, 0, 0, 0, 5, 0, 0, 1, 0, 5);
        y.sweep(0);
        is("21: a gone one", y.nearest(0, 100), NONE);
        is("21: a gone neighbour", y.nearest(1, 100), NONE);
    }

    // "NONE: none ever."
    private static void promise21NoneEver() {
        is("21: alone", with(0, 0, 0, 0, 5).nearest(0, 100), NONE);
        is("21: one above", with(0, 3, 0, 0, 5, 0, 4, 0, 0, 5).nearest(0, 100), NONE);
        is("21: one below", with(0, 3, 0, 0, 5, 0, 4, 0, 0, 5).nearest(1, 100), NONE);
    }

    // "another one that is UP at its HEIGHT": one that breaks off by then is another one too.
    private static void promise21WhatBreaksOff() {
        // 1 and 2 stand 10 away; what breaks off behind 1 HOUR goes 2 nearer in the next.
        WreckSky x = with(0, 0, 15, 0, 50, 0, 0, 5, 0, 50, 0, 0, 5, 0, 8);
        is("21: behind one", x.nearest(0, 1), 10);
        is("21: behind two", x.nearest(0, 2), 8);
    }

    // ---- promise 22

    // "SHEETS 0 .. 3"; "BAD".
    private static void promise22Sheets() {
        EDGE.outside("22: sheet", 0, 3, v -> x -> x.seen(v, 0));
        WreckSky x = with(0, 0, 7, 0, 5);
        for (int sheet = 0; sheet < 4; sheet++) {
            x.sheet(sheet, sheet % 2, 1);
            x.mark(sheet, 0, 7 + sheet);
            is("22: sheet " + sheet, x.seen(sheet, 1), sheet);
        }
    }

    // "what 0 the WRECK, 1 the differences, together. BAD".
    private static void promise22Whats() {
        EDGE.outside("22: what", 0, 1, v -> x -> x.seen(0, v));
        EDGE.outside("22: what of a missing one", 0, 1, v -> x -> x.seen(3, v));
        EDGE.outside("22: what without wrecks", WreckSky::new, 0, 1, v -> x -> x.seen(0, v));
    }

    // "NOTHING: a SHEET is MISSING".
    private static void promise22Missing() {
        EDGE.leaves("22: missing", x -> x.seen(3, 0), NOTHING);
        is("22: missing, and without wrecks", new WreckSky().seen(0, 0), NOTHING);
    }

    // "NONE: there are no WRECKS."
    private static void promise22NoWrecks() {
        WreckSky x = new WreckSky();
        x.sheet(0, 0, 24);
        is("22: without wrecks", x.seen(0, 0), NONE);
        is("22: without wrecks", x.seen(0, 1), NONE);
        x.wreck(0, 0, 3, 0, 5);
        x.sweep(0);
        is("22: a gone one is one", x.seen(0, 0), 0);
        is("22: it stays where it is", x.seen(0, 1), 24 * 3);
    }

    // "behind k HOURS and places k ... (k from 0 on)": no places, one, all 24.
    private static void promise22Places() {
        WreckSky x = with(0, 0, 10, 1, 5, 0, 1, 20, -1, 5);
        x.sheet(0, 0, 0);
        is("22: no places", x.seen(0, 0), 0);
        is("22: no places", x.seen(0, 1), 0);
        x.sheet(0, 0, 1);
        x.mark(0, 0, 20);
        is("22: one place", x.seen(0, 0), 1);
        is("22: one place", x.seen(0, 1), 0);
        x.sheet(0, 0, 24);
        for (int k = 0; k < 24; k++) {
            x.mark(0, k, 20 - k);
        }
        is("22: all places", x.seen(0, 0), 1);
        is("22: all places", x.seen(0, 1), 0);
        x.mark(0, 23, 20 - 23 + 1);
        is("22: the last differs", x.seen(0, 1), 1);
        x.mark(0, 23, 20 - 23);
        x.mark(0, 0, 20 - 1);
        is("22: the first differs", x.seen(0, 1), 1);
        // A WRECK that breaks off by then is none that there is.
        WreckSky y = with(0, 0, 0, 0, 50, 0, 0, 0, 0, 8);
        y.sheet(0, 0, 3);
        y.mark(0, 2, 2);
        is("22: of those that there are", y.seen(0, 0), 0);
        is("22: of those that there are", y.seen(0, 1), 2);
    }

    private static void restOf(WreckSky x, int sheet, int v) {
        x.mark(sheet, 0, v);
        is("22: rest of " + v, x.seen(sheet, 1), 0);
    }

    // "numbers by their rests by 30, below 0 likewise upwards".
    private static void promise22NumbersByRests() {
        int[] shorts = {0, 29, 30, 59, -1, -29, -30, -31, 32767, -32768};
        for (int v : shorts) {
            WreckSky x = with(0, 0, Math.floorMod(v, 30), 0, 5);
            x.sheet(0, 0, 1);
            x.sheet(1, 1, 1);
            restOf(x, 0, v);
            restOf(x, 1, v);
        }
        for (int v : new int[] {99999, -99999}) {
            WreckSky x = with(0, 0, Math.floorMod(v, 30), 0, 5);
            x.sheet(1, 1, 1);
            restOf(x, 1, v);
        }
    }

    // "places k that are numbers": one that is NO NUMBER does not count, but its HOUR goes by.
    private static void promise22NoNumber() {
        WreckSky x = with(0, 0, 10, 1, 5, 0, 1, 12, 0, 5);
        x.sheet(0, 1, 3);
        x.mark(0, 0, NONE);
        x.mark(0, 1, NONE);
        x.mark(0, 2, NONE);
        is("22: no numbers at all", x.seen(0, 0), 0);
        is("22: no numbers at all", x.seen(0, 1), 0);
        x.mark(0, 2, 13);
        is("22: the last alone", x.seen(0, 0), 0);
        is("22: the last alone", x.seen(0, 1), 1);
        x.mark(0, 2, 12);
        is("22: both are there", x.seen(0, 0), 0);
        is("22: both are there", x.seen(0, 1), 0);
    }

    // "differ least (round, by the nearer way ...), together".
    private static void promise22NearerWay() {
        int[][] ways = {{0, 1, 1}, {0, 29, 1}, {29, 0, 1}, {0, 14, 14}, {0, 15, 15}, {0, 16, 14}, {29, 14, 15}};
        for (int[] w : ways) {
            WreckSky x = with(0, 0, w[0], 0, 5);
            x.sheet(0, 0, 2);
            x.mark(0, 0, w[1]);
            x.mark(0, 1, w[1]);
            is("22: twice from " + w[0] + " to " + w[1], x.seen(0, 1), 2 * w[2]);
        }
        WreckSky far = with(0, 0, 15, 0, 5);
        far.sheet(0, 0, 24);
        is("22: the most that it can be", far.seen(0, 1), 24 * 15);
    }

    // "of several the least."
    private static void promise22TheLeastOfSeveral() {
        WreckSky x = new WreckSky();
        for (int i = 0; i < 14; i++) {
            x.wreck(0, i % 8, 5, 0, 1 + i);
            x.set(i, 5, 0);
        }
        x.sheet(0, 0, 1);
        is("22: all alike", x.seen(0, 0), 0);
        x.set(13, 2, 4);
        is("22: the last alone", x.seen(0, 0), 13);
        x.set(7, 2, 26);
        is("22: of two the least", x.seen(0, 0), 7);
        is("22: both by 4", x.seen(0, 1), 4);
        is("22: wide", x.seen(LOW, HIGH), BAD);
    }
}

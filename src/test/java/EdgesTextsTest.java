/**
 * The boundary cases of promises 23 to 29 and of the document's part 4: a method for each sentence that names one, with
 * the promise's number in its name and the sentence above it.
 */
public final class EdgesTextsTest {
    private static final int BAD = Edge.BAD, FULL = Edge.FULL, NONE = Edge.NONE, LOW = Edge.LOW, HIGH = Edge.HIGH;
    private static final String[] KEYS = {"hard", "fee", "fine"};
    private static final String[] NAMES = {"mhp", "bu", "mp"};
    private static final Edge EDGE = new Edge("EdgesTextsTest");

    public static void main(String[] args) {
        promise23WithoutText();
        promise23NotHeld();
        promise24Wrecks();
        promise24WithoutText();
        promise24NotHeld();
        promise25TwelveBytes();
        promise25AnyBytes();
        promise25Full();
        promise26Numbers();
        promise26FirstBytes();
        promise27UsedUp();
        promise27FourteenAtMost();
        promise27FaultStandsAheadOfFull();
        promise27Keys();
        promise27NamesOfKeys();
        promise27Digits();
        promise27WordsAndSigns();
        promise27Blanks();
        promise27WordBehindWord();
        promise27NinthRound();
        promise27NinthNot();
        promise27EachByItself();
        promise27OneTestAtMost();
        promise27PiecesAreWanted();
        promise27EndTooSoon();
        promise27NinetySixBytes();
        promise27DivisionByNothing();
        promise27DivisionIsCut();
        promise27IntsWrap();
        promise27OneOrNothing();
        promise27LoosestFirst();
        promise27LastTold();
        promise28Texts();
        promise28HowMany();
        promise29Keys();
        promise29LastTold();
        EDGE.end();
    }

    private static void is(String what, int got, int want) {
        EDGE.is(what, got, want);
    }

    private static void text(String t, int want) {
        WreckSky x = new WreckSky();
        is("27: '" + t + "'", Due.text(x, t), want);
        is("27: texts behind '" + t + "'", x.count(4), want == 0 ? 1 : 0);
        is("27: the tape behind '" + t + "'", x.count(6), 0);
    }

    private static void value(String e, int want) {
        WreckSky x = new WreckSky();
        is("27: '" + e + "'", Due.text(x, "fee " + e), 0);
        is("27: value of '" + e + "'", x.fee(), want);
    }

    // ---- promises 23 and 24

    // "what fee gives is told by fee(); without a TEXT: BROKEN".
    private static void promise23WithoutText() {
        is("23: at first", new WreckSky().fee(), 0);
        WreckSky x = Edge.with(0, 0, 0, 0, 5, 0, 0, 0, 0, 1);
        x.hours(1);
        is("23: broken", x.fee(), 1);
        Due.text(x, "fine 7");
        Due.text(x, "hard 7");
        is("23: a text of another key is none", x.fee(), 1);
        EDGE.asks("23: asking", y -> y.fee());
    }

    // "Ints wrap": what fee gives is not held, and may be any int, also one that looks like a refusal.
    private static void promise23NotHeld() {
        value("0-1", -1);
        value("2048*1024*1024", LOW);
        value("2048*1024*1024-1", HIGH);
        value("0-1000*1000*1000-1", BAD);
        value("0-1000*1000*1000-5", NONE);
    }

    // "What fine gives for a WRECK. BAD."
    private static void promise24Wrecks() {
        EDGE.outside("24: wreck", 0, 4, v -> x -> x.fine(v));
        EDGE.outside("24: wreck of none", WreckSky::new, 0, -1, v -> x -> x.fine(v));
        is("24: the first", Edge.crowded().fine(0), 10);
        is("24: the last", Edge.crowded().fine(13), 23);
    }

    // "without a TEXT: MASS".
    private static void promise24WithoutText() {
        WreckSky x = Edge.with(0, 0, 0, 0, 1, 0, 0, 1, 0, 99);
        is("24: the least mass", x.fine(0), 1);
        is("24: the most", x.fine(1), 99);
        Due.text(x, "fee 7");
        Due.text(x, "hard 7");
        is("24: a text of another key is none", x.fine(0), 1);
        x.sweep(1);
        is("24: a gone one", x.fine(1), 99);
        EDGE.asks("24: asking", y -> y.fine(0));
    }

    // "Ints wrap": what fine gives is not held either.
    private static void promise24NotHeld() {
        WreckSky x = Edge.with(0, 0, 29, 0, 99);
        Due.text(x, "fine p-m");
        is("24: below 0", x.fine(0), -70);
        Due.text(x, "fine 9999*m+p");
        is("24: above 999", x.fine(0), 9999 * 99 + 29);
    }

    // ---- promise 25

    // "Twelve bytes come to THE TAPE ...: how many it has."
    private static void promise25TwelveBytes() {
        WreckSky x = new WreckSky();
        for (int i = 1; i <= 8; i++) {
            is("25: feed", x.feed(LOW, -1, HIGH), 12 * i);
            is("25: has", x.count(6), 12 * i);
        }
    }

    // "the highest of each number first": bytes are 0 .. 255, whatever the sign of the number.
    private static void promise25AnyBytes() {
        // "fee " "2*30" "+4/5"
        WreckSky x = new WreckSky();
        x.feed(0x66656520, 0x322a3330, 0x2b342f35);
        is("25: the highest first", x.text(), 0);
        is("25: each number in its turn", x.fee(), 60);
        // "fee " "b   " and then one byte of 255, 128, 0 at each place of a number.
        for (int at = 0; at < 4; at++) {
            for (int b : new int[] {255, 128, 127, 0}) {
                WreckSky y = new WreckSky();
                int last = 0x20202020 & ~(255 << 24 - 8 * at) | b << 24 - 8 * at;
                y.feed(0x66656520, 0x62202020, last);
                is("25: byte " + b + " at " + at, y.text(), -100 - 8 - at);
            }
        }
    }

    // "FULL: it would have more than 96."
    private static void promise25Full() {
        for (int has : new int[] {83, 84, 85, 95, 96}) {
            WreckSky x = new WreckSky();
            for (int i = 0; i < 8; i++) {
                x.feed(0, 0, 0);
            }
            x.trim(has);
            is("25: to " + has, x.feed(0, 0, 0), has <= 84 ? has + 12 : FULL);
            is("25: has then, of " + has, x.count(6), has <= 84 ? has + 12 : has);
        }
        EDGE.leaves("25: full", () -> taped("fee b" + " ".repeat(86)), x -> x.feed(-1, -1, -1), FULL);
    }

    private static WreckSky taped(String t) {
        WreckSky x = Edge.rich();
        Due.tape(x, t);
        return x;
    }

    // ---- promise 26

    // "THE TAPE keeps its first n bytes: n. BAD."
    private static void promise26Numbers() {
        EDGE.outside("26: n of 11", 0, 11, v -> x -> x.trim(v));
        EDGE.outside("26: n of none", WreckSky::new, 0, 0, v -> x -> x.trim(v));
        EDGE.outside("26: n of 96", () -> taped("fee b" + " ".repeat(91)), 0, 96, v -> x -> x.trim(v));
        is("26: all of 96", taped(" ".repeat(96)).trim(96), 96);
        is("26: all of 11", Edge.rich().trim(11), 11);
        is("26: none of 11", Edge.rich().trim(0), 0);
        is("26: none of none", new WreckSky().trim(0), 0);
        EDGE.leaves("26: all", x -> x.trim(11), 11);
    }

    // "its first n bytes": what was cut off does not come back.
    private static void promise26FirstBytes() {
        WreckSky x = new WreckSky();
        Due.tape(x, "fee 1234");
        is("26: one less", x.trim(7), 7);
        is("26: cut off for good", x.trim(8), BAD);
        is("26: the first ones", x.text(), 0);
        is("26: the first ones", x.fee(), 123);
        Due.tape(x, "fee 1234");
        x.trim(5);
        x.feed(0x2b372020, 0x20202020, 0x20202020);
        is("26: fed behind them", x.text(), 1);
        is("26: fed behind them", x.fee(), 8);
    }

    // ---- promise 27

    // "an act that reads it uses it up, whatever it answers"; a refused one changes nothing but the tape.
    private static void promise27UsedUp() {
        for (String t : new String[] {"", " ", "x", "fee", "fee b+", "fee 12345", "fee b b"}) {
            Edge.Maker maker = () -> taped(t);
            WreckSky probe = maker.make();
            EDGE.leavesBut("27: fault of '" + t + "'", maker, x -> x.text(), probe.text(), y -> y.trim(0));
        }
        WreckSky x = new WreckSky();
        Due.tape(x, "fee b");
        is("27: told", x.text(), 0);
        is("27: used up", x.count(6), 0);
        is("27: an empty tape", x.text(), -100);
    }

    private static WreckSky lawful() {
        WreckSky x = Edge.with(0, 0, 0, 0, 5);
        x.keep();
        for (int i = 0; i < 14; i++) {
            Due.text(x, "fee " + i);
        }
        return x;
    }

    // "TEXTS, 14 at most, numbered from 0"; "FULL".
    private static void promise27FourteenAtMost() {
        WreckSky x = new WreckSky();
        for (int i = 0; i < 14; i++) {
            is("27: its number", Due.text(x, KEYS[i % 3] + " " + i), i);
        }
        for (String key : KEYS) {
            is("27: a fifteenth, " + key, Due.text(x, key + " 99"), FULL);
            is("27: used up, " + key, x.count(6), 0);
        }
        is("27: fourteen", x.count(4), 14);
        is("27: the last that was told", x.fee(), 13);
        Edge.Maker maker = () -> {
            WreckSky y = lawful();
            Due.tape(y, "hard 77");
            return y;
        };
        EDGE.leavesBut("27: full", maker, y -> y.text(), FULL, y -> y.trim(0));
    }

    // "-100 less the place of its FAULT; FULL." (The first that stands with it.)
    private static void promise27FaultStandsAheadOfFull() {
        WreckSky x = lawful();
        is("27: a fault", Due.text(x, "fee 99 9"), -107);
        is("27: an empty tape", Due.text(x, ""), -100);
        is("27: no fault", Due.text(x, "fee 99"), FULL);
    }

    // "KEY: hard | fee | fine."
    private static void promise27Keys() {
        for (int key = 0; key < 3; key++) {
            text(KEYS[key] + " 1", 0);
            text(KEYS[key].substring(0, KEYS[key].length() - 1) + " 1", -100);
            text(KEYS[key].substring(1) + " 1", -100);
            text("x" + KEYS[key].substring(1) + " 1", -100);
            text(KEYS[key].substring(0, KEYS[key].length() - 1) + "x 1", -100);
            text(KEYS[key] + "s 1", -100);
            text("s" + KEYS[key] + " 1", -100);
            text(KEYS[key] + KEYS[key] + " 1", -100);
            text(KEYS[key].toUpperCase() + " 1", -100);
            text("  " + KEYS[key].charAt(0) + " 1", -102);
            text(KEYS[key] + " " + KEYS[key], -100 - KEYS[key].length() - 1);
        }
        text("1", -100);
        text("(fee 1)", -100);
        text("!", -100);
        text("  1", -102);
    }

    // "NAMES, each one letter: of hard m MASS, h HEIGHT, p PACE; of fee b BROKEN, u BURNT ...; of fine m MASS, p PLACE".
    private static void promise27NamesOfKeys() {
        for (int key = 0; key < 3; key++) {
            int at = KEYS[key].length() + 1;
            for (char c = 'a'; c <= 'z'; c++) {
                text(KEYS[key] + " " + c, NAMES[key].indexOf(c) >= 0 ? 0 : -100 - at);
                text(KEYS[key] + " " + NAMES[key].charAt(0) + c, -100 - at);
            }
        }
        WreckSky x = Edge.with(0, 7, 29, -9, 99);
        Due.text(x, "hard h");
        is("27: height", x.told(0, 6), 7);
        Due.text(x, "hard 0-p");
        is("27: pace", x.told(0, 6), 9);
        Due.text(x, "hard m");
        is("27: mass", x.told(0, 6), 99);
        Due.text(x, "fine p");
        is("27: place", x.fine(0), 29);
    }

    // "NUMBER (1 to 4 digits)"; FAULT: "a NUMBER of more than 4 digits".
    private static void promise27Digits() {
        value("0", 0);
        value("9", 9);
        value("0000", 0);
        value("0009", 9);
        value("9999", 9999);
        text("fee 00000", -104);
        text("fee 10000", -104);
        text("fee 00001", -104);
        text("fee b+12345", -106);
        text("fee 1234 5", -109);
        text("fee 123456789", -104);
        text("fee 1234+12345", -109);
        text("fee " + "9".repeat(92), -104);
    }

    /** The FAULT of "fee b", this byte, and " u", by what the document calls a word, a sign, and a blank. */
    private static int faultOf(int b) {
        if (b == ' ') return -107;
        if (b >= 'a' && b <= 'z') return -104;
        return "|&<=>+-*/".indexOf((char) b) >= 0 ? 0 : -105;
    }

    // "A word is a row of letters a .. z, or of digits, as long as it goes; any other byte is a sign by itself."
    private static void promise27WordsAndSigns() {
        for (int b = 0; b < 256; b++) {
            text("fee b" + (char) b + " u", faultOf(b));
            boolean begins = "bu!(".indexOf((char) b) >= 0 || b >= '0' && b <= '9';
            int alone = begins ? "!(".indexOf((char) b) >= 0 ? -105 : 0 : b == ' ' ? -105 : -104;
            text("fee " + (char) b, alone);
        }
        text("fee 1a", -105);
        text("fee 1z", -105);
        text("fee 0`", -105);
        text("fee b9", -105);
        text("fee b0", -105);
    }

    // "Between words and signs, and at the ends, there may be blanks (byte 32)".
    private static void promise27Blanks() {
        text("fee b", 0);
        text(" fee b", 0);
        text("fee b ", 0);
        text("   fee   b   +   (   !   u   )   ", 0);
        text("fee(b+(!u))", 0);
        text("fee!b", 0);
        text("f ee b", -100);
        text("fee 1 2", -106);
        text("fee" + (char) 9 + "b", -103);
        text("fee b" + (char) 10, -105);
        text("fee b" + (char) 0, -105);
        text("fee" + " ".repeat(92) + "b", 0);
    }

    // FAULT: "a word that needs a blank ahead of it".
    private static void promise27WordBehindWord() {
        text("fee1", -103);
        text("hard1", -104);
        text("fine9", -104);
        text("fee1234+b", -103);
        text("fee12345", -103);
        text("feeb", -100);
        text("fee 1b", -105);
        text("fee b1", -105);
        text("fee b 1", -106);
        text("fee (b)1", -107);
        text("fee 1(b)", -105);
        text("fee !b1", -106);
        text("fee !1", 0);
        text("fee (1)", 0);
        text("fee b+1", 0);
        text("fee 1+b", 0);
    }

    private static String rounds(int many, String within) {
        return "(".repeat(many) + within + ")".repeat(many);
    }

    // FAULT: "the ninth ( that would be open within others".
    private static void promise27NinthRound() {
        text("fee " + rounds(7, "b"), 0);
        text("fee " + rounds(8, "b"), 0);
        text("fee " + rounds(9, "b"), -100 - 4 - 8);
        text("fee " + rounds(8, "b+(b)"), -100 - 4 - 8 - 2);
        text("fee " + rounds(7, "(b)+(b)"), 0);
        text("fee " + rounds(7, "(b)+((b))"), -100 - 4 - 7 - 5);
        text("fee " + "(b)+".repeat(22) + "(b)", 0);
        text("fee " + rounds(8, "b") + "+" + rounds(8, "b"), 0);
        text("fee " + rounds(8, "b") + "+" + rounds(9, "b"), -100 - 4 - 17 - 1 - 8);
        text("fee " + "(".repeat(8), -112);
        text("fee " + "(".repeat(9), -112);
        text("fee " + "( ".repeat(9), -100 - 4 - 16);
        value(rounds(8, "7"), 7);
    }

    // FAULT: "the ninth ! likewise".
    private static void promise27NinthNot() {
        text("fee " + "!".repeat(7) + "b", 0);
        text("fee " + "!".repeat(8) + "b", 0);
        text("fee " + "!".repeat(9) + "b", -100 - 4 - 8);
        text("fee " + "!".repeat(8), -112);
        text("fee " + "! ".repeat(9) + "b", -100 - 4 - 16);
        text("fee " + "!b+".repeat(29) + "!b", 0);
        text("fee " + "!".repeat(8) + "b+" + "!".repeat(8) + "b", 0);
        text("fee " + "!".repeat(8) + "b+" + "!".repeat(9) + "b", -100 - 4 - 10 - 8);
        text("fee " + "!".repeat(8) + "(b)|" + "!".repeat(8) + "b", 0);
        value("!".repeat(8) + "7", 1);
        value("!".repeat(7) + "7", 0);
    }

    // "each by itself": eight of both go; a ! around a ( is open within it, behind the ) no more.
    private static void promise27EachByItself() {
        text("fee " + "!".repeat(8) + rounds(8, "b"), 0);
        text("fee " + "!(".repeat(8) + "b" + ")".repeat(8), 0);
        text("fee " + "(!".repeat(8) + "b" + ")".repeat(8), 0);
        text("fee " + "!(".repeat(8) + "!b" + ")".repeat(8), -100 - 4 - 16);
        text("fee " + "(!".repeat(8) + "!b" + ")".repeat(8), -100 - 4 - 16);
        text("fee " + "(!".repeat(8) + "(b)" + ")".repeat(8), -100 - 4 - 16);
        text("fee " + "!".repeat(8) + "(!b)", -100 - 4 - 9);
        text("fee " + "!".repeat(8) + "(b)+!b", 0);
        text("fee " + "!".repeat(7) + "(!b+!b)", 0);
        text("fee " + "!".repeat(7) + "(!!b)", -100 - 4 - 9);
    }

    // "TEST: SUM [ (< | = | >) SUM ]": one at most, but in each ( ) and on each side of & and | anew.
    private static void promise27OneTestAtMost() {
        for (char a : "<=>".toCharArray()) {
            text("fee b" + a + "u", 0);
            for (char c : "<=>".toCharArray()) {
                text("fee b" + a + "u" + c + "b", -107);
                text("fee b" + a + c + "u", -106);
                text("fee (b" + a + "u)" + c + "b", 0);
                text("fee b" + a + "(u" + c + "b)", 0);
                text("fee b" + a + "u&b" + c + "u", 0);
                text("fee b" + a + "u|b" + c + "u", 0);
                text("fee b" + a + "u+1" + c + "b", -109);
            }
        }
    }

    // "PIECE: NUMBER ... | NAME | ! PIECE | ( E )": no sign stands for a PIECE, nothing else behind one.
    private static void promise27PiecesAreWanted() {
        for (char sign : "|&<=>+-*/)".toCharArray()) {
            text("fee " + sign, -104);
            text("fee b+" + sign, -106);
            text("fee (" + sign, -105);
            text("fee !" + sign, -105);
        }
        text("fee ()", -105);
        text("fee !", -105);
        text("fee b)", -105);
        text("fee (b))", -107);
        text("fee b!", -105);
        text("fee b(", -105);
        text("fee (b)(u)", -107);
        text("fee b fee b", -106);
    }

    // "the end (the place behind the last byte), if it comes too soon."
    private static void promise27EndTooSoon() {
        text("", -100);
        text(" ", -101);
        text("fee", -103);
        text("fee ", -104);
        text("fee b+", -106);
        text("fee b+ ", -107);
        text("fee (b", -106);
        text("fee (b ", -107);
        text("fee (", -105);
        text("fee !", -105);
        text("fee b<", -106);
        text("fee ((b)", -108);
    }

    // "THE TAPE (96 bytes at most ...)": a TEXT of all 96, a FAULT at the last byte, and the end behind it.
    private static void promise27NinetySixBytes() {
        String sum = "fee " + "b+".repeat(45) + "1";
        text(sum + " ", 0);
        text(sum + "+", -196);
        text(sum + ")", -195);
        text(" " + sum, 0);
        text(" ".repeat(96), -196);
        text(" ".repeat(95) + "x", -195);
        text(" ".repeat(91) + "fee b", 0);
        text("fee " + " ".repeat(91) + "b", 0);
        text("fee b" + " ".repeat(90) + "(", -195);
        WreckSky x = new WreckSky();
        Due.text(x, "fee " + "1+".repeat(45) + "9 ");
        is("27: of 46 numbers", x.fee(), 54);
        is("28: of 46 numbers", x.textTold(0, 1), 46);
        // The deepest row: each sign waits for all that stands behind it.
        String deep = "1|1&1<1+1*";
        value("(1|1&1<1+1*".repeat(7) + "1" + ")".repeat(7), 1);
        value(deep + "(" + deep + "(" + deep + "(" + deep + "2)))", 1);
    }

    // "/ is 0 by 0".
    private static void promise27DivisionByNothing() {
        value("5/0", 0);
        value("0/0", 0);
        value("(0-5)/0", 0);
        value("5/(3-3)", 0);
        value("5/0/0", 0);
        value("7+5/0", 7);
        value("2048*1024*1024/0", 0);
        value("1|1/0", 1);
        value("0&1/0", 0);
    }

    // "/ cuts towards 0."
    private static void promise27DivisionIsCut() {
        value("7/2", 3);
        value("(0-7)/2", -3);
        value("7/(0-2)", -3);
        value("(0-7)/(0-2)", 3);
        value("1/2", 0);
        value("(0-1)/2", 0);
        value("7/7", 1);
        value("6/7", 0);
    }

    // "Ints wrap".
    private static void promise27IntsWrap() {
        value("2048*1024*1024", LOW);
        value("2048*1024*1024-1", HIGH);
        value("2048*1024*1024-1+1", LOW);
        value("4096*1024*1024", 0);
        value("0-2048*1024*1024", LOW);
        value("2048*1024*1024/(0-1)", LOW);
        value("2048*1024*1024<0", 1);
        value("2048*1024*1024-1>0", 1);
        value("2048*1024*1024<2048*1024*1024-1", 1);
        value("9999*9999*9999", 9999 * 9999 * 9999);
    }

    // "tests, & | ! give 1 or 0 (what is not 0 is true ...)".
    private static void promise27OneOrNothing() {
        int[][] pairs = {{0, 0}, {0, 1}, {1, 0}, {5, 5}, {5, 6}, {9999, 0}};
        for (int[] p : pairs) {
            value(p[0] + "<" + p[1], p[0] < p[1] ? 1 : 0);
            value(p[0] + "=" + p[1], p[0] == p[1] ? 1 : 0);
            value(p[0] + ">" + p[1], p[0] > p[1] ? 1 : 0);
            value(p[0] + "&" + p[1], p[0] != 0 && p[1] != 0 ? 1 : 0);
            value(p[0] + "|" + p[1], p[0] != 0 || p[1] != 0 ? 1 : 0);
        }
        value("!0", 1);
        value("!1", 0);
        value("!9999", 0);
        value("!(0-1)", 0);
        value("(0-1)&(0-1)", 1);
        value("(0-1)|0", 1);
        value("!(2048*1024*1024)", 0);
        value("2048*1024*1024&1", 1);
    }

    // "E, the loosest first", and of like ones from the left.
    private static void promise27LoosestFirst() {
        value("1|0&0", 1);
        value("(1|0)&0", 0);
        value("1&2=1", 0);
        value("(1&2)=1", 1);
        value("1=2-1", 1);
        value("5+4*3", 17);
        value("20-5-4", 11);
        value("20-(5-4)", 19);
        value("100/10/5", 2);
        value("7/2*2", 6);
        value("!0*5", 5);
        value("5*!0", 5);
        value("5+!7", 5);
        value("1+(2+!0)", 4);
        value("!0=0", 0);
    }

    // "Of a KEY that TEXT counts that was told last."
    private static void promise27LastTold() {
        WreckSky x = new WreckSky();
        Due.text(x, "fee 1");
        Due.text(x, "fee 2");
        is("27: the last", x.fee(), 2);
        Due.text(x, "hard 3");
        is("27: of its key", x.fee(), 2);
        Due.text(x, "fee 4 4");
        is("27: a faulty one is none", x.fee(), 2);
        WreckSky full = lawful();
        Due.text(full, "fee 99");
        is("27: one that is refused is none", full.fee(), 13);
    }

    // ---- promise 28

    // "Of a TEXT: what 0 KEY (0 hard, 1 fee, 2 fine), 1 how many ... BAD."
    private static void promise28Texts() {
        EDGE.outside("28: text", 0, 2, v -> x -> x.textTold(v, 0));
        EDGE.outside("28: text of none", WreckSky::new, 0, -1, v -> x -> x.textTold(v, 0));
        EDGE.outside("28: text of fourteen", EdgesTextsTest::lawful, 0, 13, v -> x -> x.textTold(v, 0));
        EDGE.outside("28: what", 0, 1, v -> x -> x.textTold(0, v));
        WreckSky x = Edge.rich();
        for (int i = 0; i < 3; i++) {
            is("28: key of " + i, x.textTold(i, 0), i);
        }
        is("28: the last of fourteen", lawful().textTold(13, 0), 1);
        EDGE.asks("28: asking", y -> y.textTold(2, 1));
    }

    // "1 how many NUMBERS and NAMES it has": one at least.
    private static void promise28HowMany() {
        WreckSky x = new WreckSky();
        String[] texts = {"fee b", "fee 0", "fee " + rounds(8, "!".repeat(8) + "7"), "fee b+b", "fee b+12-u", "hard m*h/p&1234"};
        int[] many = {1, 1, 1, 2, 3, 4};
        for (int i = 0; i < texts.length; i++) {
            Due.text(x, texts[i]);
            is("28: how many of '" + texts[i] + "'", x.textTold(i, 1), many[i]);
        }
    }

    // ---- promise 29

    // "The TEXT that counts for a KEY. BAD".
    private static void promise29Keys() {
        EDGE.outside("29: key", 0, 2, v -> x -> x.why(v));
        EDGE.outside("29: key without texts", WreckSky::new, 0, 2, v -> x -> x.why(v));
        EDGE.asks("29: asking", x -> x.why(2));
    }

    // "NONE."; "that TEXT counts that was told last".
    private static void promise29LastTold() {
        for (int key = 0; key < 3; key++) {
            WreckSky x = new WreckSky();
            is("29: none yet", x.why(key), NONE);
            Due.text(x, KEYS[key] + " 1");
            is("29: the first", x.why(key), 0);
            for (int i = 1; i < 14; i++) {
                Due.text(x, KEYS[(key + 1) % 3] + " 1");
            }
            is("29: the first still", x.why(key), 0);
            is("29: the last of all", x.why((key + 1) % 3), 13);
            is("29: none of the third", x.why((key + 2) % 3), NONE);
        }
    }
}

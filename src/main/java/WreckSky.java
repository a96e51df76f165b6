import java.util.Arrays;

/** A sky full of wrecks; the numbered promises that it keeps stand in the project's document. */
public final class WreckSky {
    public static final int BAD = -1000000001, NO = -1000000002, FULL = -1000000003, NONE = -1000000005, NOTHING = -1000000011, KIND = -1000000012, INDEX = -1000000013, SIZE = -1000000014;

    private static final int HEIGHTS = 8, PLACES = 30, KINDS = 6;
    private static final int MOST_PACE = 9, MOST_MASS = 99, MOST_HARD = 999, MOST_DRAG = 100, LAST_HOUR = 9999;
    private static final int MOST_WRECKS = 14, MOST_TEXTS = 14, MOST_BYTES = 96, MOST_WAITING = 60;
    private static final int KEYS = 3, SHEETS = 4, SLOTS = 5, MOST_CELLS = 24, MOST_FLOAT = 99999;
    private static final int MOST_AHEAD = 100, MOST_CHOSEN = 60, MOST_HOLE = 60, MOST_FIRST = 200, MOST_TOLD = 30;
    private static final int HOLDS_NOTHING = 0, HOLDS_WRECK = 1, HOLDS_SHEET = 2, HOLDS_NUMBER = 3;

    private final Sky now = new Sky();
    private final Sky image = new Sky();
    private final Foresight foresight = new Foresight();
    private final Tape tape = new Tape();
    private final Reader reader = new Reader(tape);
    private final Sheet[] sheets = new Sheet[SHEETS];
    private final Slot[] slots = new Slot[SLOTS];
    private final int[] waiting = new int[MOST_WAITING];
    private int waitingCount = 0;
    private boolean hasImage = false;

    public WreckSky() {
        for (int i = 0; i < SHEETS; i++) {
            sheets[i] = new Sheet();
        }
        for (int i = 0; i < SLOTS; i++) {
            slots[i] = new Slot();
        }
    }

    // ---- wrecks

    public int wreck(int kind, int height, int place, int pace, int mass) {
        if (!isKind(kind) || !within(height, 0, HEIGHTS - 1) || !isPlace(place)) {
            return BAD;
        }
        if (!within(pace, -MOST_PACE, MOST_PACE) || !within(mass, 1, MOST_MASS)) {
            return BAD;
        }
        return now.addWreck(kind, height, place, pace, mass) ? now.wreckCount - 1 : FULL;
    }

    public int told(int wreck, int what) {
        if (!now.hasWreck(wreck)) {
            return BAD;
        }
        Wreck w = now.wrecks[wreck];
        switch (what) {
            case 0: return w.kind;
            case 1: return w.height;
            case 2: return w.place;
            case 3: return w.pace;
            case 4: return w.mass;
            case 5: return w.up ? 1 : 0;
            case 6: return now.hardOf(w);
            case 7: return w.goesAt(now.hour);
            case 8: return w.worth();
            default: return BAD;
        }
    }

    public int as(int wreck, int kind) {
        if (!now.hasWreck(wreck) || !isKind(kind)) {
            return BAD;
        }
        Wreck w = now.wrecks[wreck];
        return w.isOf(kind) ? w.mass : KIND;
    }

    public int turns(int wreck, int kind) {
        if (!now.hasWreck(wreck) || !isKind(kind)) {
            return BAD;
        }
        Wreck w = now.wrecks[wreck];
        int was = w.kind;
        w.kind = kind;
        return was;
    }

    public int set(int wreck, int what, int v) {
        if (!now.hasWreck(wreck) || !fits(what, v)) {
            return BAD;
        }
        int was = told(wreck, what);
        Wreck w = now.wrecks[wreck];
        switch (what) {
            case 1: w.height = v; break;
            case 2: w.place = v; break;
            case 3: w.pace = v; break;
            case 4: w.mass = v; break;
            default: w.up = v == 1; break;
        }
        return was;
    }

    public int sweep(int wreck) {
        if (!now.hasWreck(wreck)) {
            return BAD;
        }
        Wreck w = now.wrecks[wreck];
        if (!w.up) {
            return NO;
        }
        w.up = false;
        now.swept++;
        return w.mass;
    }

    public int drag(int v) {
        if (!within(v, 0, MOST_DRAG)) {
            return BAD;
        }
        int was = now.drag;
        now.drag = v;
        return was;
    }

    public int at(int height, int place) {
        if (!within(height, 0, HEIGHTS - 1) || !isPlace(place)) {
            return BAD;
        }
        int found = 0;
        for (int i = 0; i < now.wreckCount; i++) {
            Wreck w = now.wrecks[i];
            if (w.up && w.height == height && w.place == place) {
                found |= 1 << i;
            }
        }
        return found;
    }

    public int deal(int n) {
        if (!within(n, 1, MOST_WRECKS)) {
            return BAD;
        }
        int came = Math.min(n, MOST_WRECKS - now.wreckCount);
        for (int i = 0; i < came; i++) {
            now.drawWreck();
        }
        return came;
    }

    public int seed(int v) {
        int was = now.z;
        now.z = v;
        return was;
    }

    // ---- hours

    public int hours(int n) {
        if (!within(n, 1, MOST_AHEAD)) {
            return BAD;
        }
        int was = now.broken;
        now.passHours(Math.min(n, LAST_HOUR - now.hour));
        return now.broken - was;
    }

    public int sky(int what) {
        switch (what) {
            case 0: return now.broken;
            case 1: return now.burnt;
            case 2: return now.swept;
            case 3: return now.upSet();
            case 4: return now.upMass();
            case 5: return now.upHeights();
            default: return BAD;
        }
    }

    // ---- what will be

    public int behind(int n, int what) {
        // Only WRECKS that are now can be asked for, not those that will have broken off by then.
        if (!within(n, 0, MOST_AHEAD) || !within(what, 0, 2 + now.wreckCount)) {
            return BAD;
        }
        Sky then = foresight.behindHours(now, n);
        switch (what) {
            case 0: return then.broken;
            case 1: return then.burnt;
            case 2: return Integer.bitCount(then.upSet());
            default: return then.wrecks[what - 3].place;
        }
    }

    public int first() {
        return foresight.firstBreak(now);
    }

    public int hole(int place) {
        if (!isPlace(place)) {
            return BAD;
        }
        foresight.findHoles(now);
        return foresight.holeOver(place);
    }

    public int open(int n) {
        if (!within(n, 0, MOST_HOLE)) {
            return BAD;
        }
        foresight.findHoles(now);
        int opened = 0;
        for (int place = 0; place < PLACES; place++) {
            if (foresight.holeOver(place) == n) {
                opened++;
            }
        }
        return opened;
    }

    public int best(int n, int what) {
        if (!within(n, 1, MOST_CHOSEN) || !within(what, 0, 1)) {
            return BAD;
        }
        foresight.chooseSweep(now, n);
        return foresight.toldOf(what);
    }

    public int push(int wreck, int n, int what) {
        if (!now.hasWreck(wreck) || !within(n, 1, MOST_CHOSEN) || !within(what, 0, 1)) {
            return BAD;
        }
        foresight.choosePace(now, wreck, n);
        return foresight.toldOf(what);
    }

    public int under(int n, int what) {
        if (!within(n, 1, MOST_AHEAD) || !within(what, 0, 1)) {
            return BAD;
        }
        foresight.choosePlaceUnder(now, n);
        return foresight.toldOf(what);
    }

    public int nearest(int wreck, int n) {
        if (!now.hasWreck(wreck) || !within(n, 0, MOST_AHEAD)) {
            return BAD;
        }
        return foresight.nearestWay(now, wreck, n);
    }

    public int seen(int sheet, int what) {
        if (!isSheet(sheet) || !within(what, 0, 1)) {
            return BAD;
        }
        if (sheets[sheet].isMissing()) {
            return NOTHING;
        }
        foresight.chooseSeen(now, sheets[sheet]);
        return foresight.toldOf(what);
    }

    public int fee() {
        int law = now.textFor(Text.FEE);
        return law < 0 ? now.broken : now.texts[law].valueOf(now.broken, now.burnt, 0, now.stack);
    }

    public int fine(int wreck) {
        if (!now.hasWreck(wreck)) {
            return BAD;
        }
        Wreck w = now.wrecks[wreck];
        int law = now.textFor(Text.FINE);
        return law < 0 ? w.mass : now.texts[law].valueOf(w.mass, w.place, 0, now.stack);
    }

    // ---- texts

    public int feed(int a, int b, int c) {
        if (!tape.hasRoomFor(12)) {
            return FULL;
        }
        tape.addBytes(a);
        tape.addBytes(b);
        tape.addBytes(c);
        return tape.length;
    }

    public int trim(int n) {
        if (!within(n, 0, tape.length)) {
            return BAD;
        }
        tape.length = n;
        return n;
    }

    public int text() {
        Text law = reader.readTape();
        tape.length = 0;
        if (law == null) {
            return -100 - reader.fault;
        }
        return now.addText(law) ? now.textCount - 1 : FULL;
    }

    public int textTold(int text, int what) {
        if (!within(text, 0, now.textCount - 1) || !within(what, 0, 1)) {
            return BAD;
        }
        return what == 0 ? now.texts[text].key : now.texts[text].operands;
    }

    public int why(int key) {
        if (!within(key, 0, KEYS - 1)) {
            return BAD;
        }
        int law = now.textFor(key);
        return law < 0 ? NONE : law;
    }

    // ---- sheets, slots

    public int sheet(int sheet, int sort, int n) {
        if (!isSheet(sheet) || !within(sort, Sheet.MISSING, Sheet.FLOATS)) {
            return BAD;
        }
        int size = sort == Sheet.MISSING ? 0 : n;
        if (size > MOST_CELLS) {
            return BAD;
        }
        if (size < 0) {
            return SIZE;
        }
        sheets[sheet].becomeBlank(sort, size);
        return size;
    }

    public int mark(int sheet, int place, int v) {
        if (!isSheet(sheet)) {
            return BAD;
        }
        Sheet s = sheets[sheet];
        if (s.isMissing()) {
            return NOTHING;
        }
        if (!s.hasPlace(place)) {
            return INDEX;
        }
        if (s.sort == Sheet.SHORTS) {
            if (v == NONE) {
                return KIND;
            }
            s.cells[place] = (short) v;
            return 1;
        }
        if (v != NONE && !within(v, -MOST_FLOAT, MOST_FLOAT)) {
            return BAD;
        }
        s.cells[place] = v;
        return 1;
    }

    public int pour(int sheet) {
        if (!isSheet(sheet)) {
            return BAD;
        }
        Sheet s = sheets[sheet];
        if (s.isMissing()) {
            return NOTHING;
        }
        int changed = 0;
        for (int i = 0; i < now.wreckCount; i++) {
            if (s.hasNumber(i)) {
                int mass = held(s.cells[i], 1, MOST_MASS);
                if (now.wrecks[i].mass != mass) {
                    changed++;
                }
                now.wrecks[i].mass = mass;
            }
        }
        return changed;
    }

    public int reads(int sheet) {
        if (!isSheet(sheet)) {
            return BAD;
        }
        Sheet s = sheets[sheet];
        if (s.isMissing()) {
            return NOTHING;
        }
        for (int i = 0; i < s.size; i++) {
            if (s.hasNumber(i) && !(now.hasWreck(i) && now.wrecks[i].place == s.cells[i])) {
                return i;
            }
        }
        return NONE;
    }

    public int copy(int from, int place, int to, int at, int many) {
        if (!isSheet(from) || !isSheet(to)) {
            return BAD;
        }
        Sheet source = sheets[from];
        Sheet target = sheets[to];
        if (source.isMissing() || target.isMissing()) {
            return NOTHING;
        }
        if (source.sort != target.sort) {
            return KIND;
        }
        if (!source.hasPlaces(place, many) || !target.hasPlaces(at, many)) {
            return INDEX;
        }
        System.arraycopy(source.cells, place, target.cells, at, many);
        return many;
    }

    public int lay(int slot, int thing, int k) {
        if (!isSlot(slot) || !within(thing, HOLDS_NOTHING, HOLDS_NUMBER)) {
            return BAD;
        }
        if (thing == HOLDS_WRECK && !now.hasWreck(k) || thing == HOLDS_SHEET && !isSheet(k)) {
            return BAD;
        }
        if (thing == HOLDS_SHEET && sheets[k].isMissing()) {
            return NOTHING;
        }
        Slot s = slots[slot];
        int was = s.thing;
        s.thing = thing;
        if (thing == HOLDS_WRECK) {
            s.wreck.becomeAs(now.wrecks[k]);
        } else if (thing == HOLDS_SHEET) {
            s.sheet.becomeAs(sheets[k]);
        } else {
            s.number = k;
        }
        return was;
    }

    public int ask(int slot, int kind) {
        if (!isSlot(slot) || !isKind(kind)) {
            return BAD;
        }
        int finding = findingUnless(slot, HOLDS_WRECK);
        if (finding != 0) {
            return finding;
        }
        Wreck w = slots[slot].wreck;
        return w.isOf(kind) ? w.worth() : KIND;
    }

    public int item(int slot, int place) {
        if (!isSlot(slot)) {
            return BAD;
        }
        int finding = findingUnless(slot, HOLDS_SHEET);
        if (finding != 0) {
            return finding;
        }
        Sheet s = slots[slot].sheet;
        if (!s.hasPlace(place)) {
            return INDEX;
        }
        return s.hasNumber(place) ? s.cells[place] : KIND;
    }

    public int rest(int slot, int n) {
        if (!isSlot(slot)) {
            return BAD;
        }
        int finding = findingUnless(slot, HOLDS_NUMBER);
        if (finding != 0) {
            return finding;
        }
        return n == 0 ? NO : slots[slot].number % n;
    }

    // ---- rows, images

    public int tell(int v) {
        if (waitingCount >= MOST_WAITING) {
            return FULL;
        }
        waiting[waitingCount] = v;
        waitingCount++;
        return waitingCount;
    }

    public int check(int n) {
        int told = waitingCount;
        waitingCount = 0;
        if (!within(n, 1, MOST_TOLD)) {
            return BAD;
        }
        if (!hasImage) {
            return NO;
        }
        int pairs = Math.min(n, LAST_HOUR - image.hour);
        int right = foresight.rightOnes(image, pairs, waiting, told);
        return right == told && told == 2 * pairs ? 0 : 1 + right;
    }

    public int keep() {
        image.becomeAs(now);
        hasImage = true;
        return image.wreckCount;
    }

    public int back() {
        if (!hasImage) {
            return NO;
        }
        now.becomeAs(image);
        return now.wreckCount;
    }

    public int count(int what) {
        switch (what) {
            case 0: return now.wreckCount;
            case 1: return now.hour;
            case 2: return now.drag;
            case 3: return Integer.bitCount(now.upSet());
            case 4: return now.textCount;
            case 5: return waitingCount;
            case 6: return tape.length;
            case 7: return now.z;
            default: return BAD;
        }
    }

    // ---- what the calls share

    private static boolean within(int v, int least, int most) {
        return v >= least && v <= most;
    }

    private static int held(int v, int least, int most) {
        return Math.max(least, Math.min(v, most));
    }

    private static int wayRound(int a, int b) {
        int way = Math.abs(a - b);
        return Math.min(way, PLACES - way);
    }

    private static boolean isKind(int kind) {
        return within(kind, 0, KINDS - 1);
    }

    private static boolean isPlace(int place) {
        return within(place, 0, PLACES - 1);
    }

    private static boolean isSheet(int sheet) {
        return within(sheet, 0, SHEETS - 1);
    }

    private static boolean isSlot(int slot) {
        return within(slot, 0, SLOTS - 1);
    }

    /** Whether v may become what is told of a WRECK under that number. */
    private static boolean fits(int what, int v) {
        switch (what) {
            case 1: return within(v, 0, HEIGHTS - 1);
            case 2: return isPlace(v);
            case 3: return within(v, -MOST_PACE, MOST_PACE);
            case 4: return within(v, 1, MOST_MASS);
            case 5: return within(v, 0, 1);
            default: return false;
        }
    }

    /** What is to be answered when a SLOT does not hold such a thing; 0 when it does. */
    private int findingUnless(int slot, int thing) {
        int holds = slots[slot].thing;
        if (holds == HOLDS_NOTHING) {
            return NOTHING;
        }
        return holds == thing ? 0 : KIND;
    }

    static final class Wreck {
        static final int SHOE = 1, BOLT = 2, OWNED = 3, DUST = 4, DEAD = 5;
        /** The KIND above each KIND; none is above WRECK. */
        private static final int[] ABOVE = {-1, 0, 0, 1, 2, 0};

        int kind;
        int height;
        int place;
        int pace;
        int mass;
        boolean up;

        void becomeAs(Wreck other) {
            kind = other.kind;
            height = other.height;
            place = other.place;
            pace = other.pace;
            mass = other.mass;
            up = other.up;
        }

        boolean isOf(int asked) {
            int k = kind;
            for (int i = 0; i < KINDS && k >= 0; i++) {
                if (k == asked) {
                    return true;
                }
                k = ABOVE[k];
            }
            return false;
        }

        /** HARD by KIND, from what it would be for a mere WRECK. */
        int hardFrom(int asWreck) {
            switch (kind) {
                case SHOE: return asWreck + 10;
                case OWNED: return (asWreck + 10) / 2;
                case BOLT: return Math.max(0, asWreck - 9);
                case DUST: return 0;
                case DEAD: return 2 * asWreck;
                default: return asWreck;
            }
        }

        int goesAt(int hour) {
            switch (kind) {
                case OWNED: return hour % 2 == 0 ? pace : 0;
                case BOLT: return pace + 1;
                case DUST: return -(pace + 1);
                case DEAD: return pace == 0 ? 1 : pace;
                default: return pace;
            }
        }

        int worth() {
            switch (kind) {
                case SHOE: return mass + 9;
                case OWNED: return 2 * (mass + 9);
                case BOLT: return 99 - mass;
                case DUST: return 99 - mass - 5;
                case DEAD: return 2;
                default: return mass;
            }
        }
    }

    /** All that an IMAGE keeps. The same class serves what is, what is kept, and what is only thought. */
    static final class Sky {
        final Wreck[] wrecks = new Wreck[MOST_WRECKS];
        final Text[] texts = new Text[MOST_TEXTS];
        /** Room for a law's value to be worked out in, made once for all laws. */
        final int[] stack = new int[MOST_BYTES];
        int wreckCount = 0;
        int textCount = 0;
        int drag = 0;
        int broken = 0;
        int burnt = 0;
        int swept = 0;
        int hour = 0;
        int z = 1;

        Sky() {
            for (int i = 0; i < MOST_WRECKS; i++) {
                wrecks[i] = new Wreck();
            }
        }

        void becomeAs(Sky other) {
            for (int i = 0; i < other.wreckCount; i++) {
                wrecks[i].becomeAs(other.wrecks[i]);
            }
            for (int i = 0; i < other.textCount; i++) {
                texts[i] = other.texts[i];
            }
            wreckCount = other.wreckCount;
            textCount = other.textCount;
            drag = other.drag;
            broken = other.broken;
            burnt = other.burnt;
            swept = other.swept;
            hour = other.hour;
            z = other.z;
        }

        boolean hasWreck(int wreck) {
            return within(wreck, 0, wreckCount - 1);
        }

        /** Whether there was room for it. */
        boolean addWreck(int kind, int height, int place, int pace, int mass) {
            if (wreckCount >= MOST_WRECKS) {
                return false;
            }
            Wreck w = wrecks[wreckCount];
            wreckCount++;
            w.kind = kind;
            w.height = height;
            w.place = place;
            w.pace = pace;
            w.mass = mass;
            w.up = true;
            return true;
        }

        /** Whether there was room for it. */
        boolean addText(Text law) {
            if (textCount >= MOST_TEXTS) {
                return false;
            }
            texts[textCount] = law;
            textCount++;
            return true;
        }

        /** The TEXT that counts for a KEY, or -1. */
        int textFor(int key) {
            for (int i = textCount - 1; i >= 0; i--) {
                if (texts[i].key == key) {
                    return i;
                }
            }
            return -1;
        }

        int hardOf(Wreck w) {
            int law = textFor(Text.HARD);
            int gives = law < 0 ? w.mass : texts[law].valueOf(w.mass, w.height, w.pace, stack);
            return w.hardFrom(held(gives, 0, MOST_HARD));
        }

        int draw() {
            z = z * 1103515245 + 12345;
            return z >>> 8;
        }

        void drawWreck() {
            int kind = draw() % KINDS;
            int height = draw() % HEIGHTS;
            int place = draw() % PLACES;
            int pace = draw() % (2 * MOST_PACE + 1) - MOST_PACE;
            int mass = 1 + draw() % 30;
            addWreck(kind, height, place, pace, mass);
        }

        void passHours(int n) {
            for (int i = 0; i < n; i++) {
                goAll();
                meetAll();
                sinkByLot();
                hour++;
            }
        }

        private void goAll() {
            for (int i = 0; i < wreckCount; i++) {
                Wreck w = wrecks[i];
                if (w.up) {
                    w.place = Math.floorMod(w.place + w.goesAt(hour), PLACES);
                }
            }
        }

        private void meetAll() {
            // What breaks off in this hour meets nobody before the next one.
            int known = wreckCount;
            for (int i = 0; i < known; i++) {
                Wreck a = wrecks[i];
                for (int j = i + 1; j < known && a.up; j++) {
                    Wreck b = wrecks[j];
                    if (a.place == b.place && a.height == b.height && b.up) {
                        breakUp(hardOf(a) < hardOf(b) ? a : b);
                    }
                }
            }
        }

        private void breakUp(Wreck w) {
            broken++;
            if (w.mass == 1) {
                w.up = false;
                return;
            }
            int kept = w.mass / 2;
            addWreck(Wreck.BOLT, w.height, w.place, Math.min(w.pace + 1, MOST_PACE), w.mass - kept);
            w.mass = kept;
        }

        private void sinkByLot() {
            // Without WRECKS nothing is done behind the first draw, so z does not go on a second time either.
            if (draw() % 100 >= drag || wreckCount == 0) {
                return;
            }
            Wreck w = wrecks[draw() % wreckCount];
            if (!w.up) {
                return;
            }
            if (w.height > 0) {
                w.height--;
            } else {
                w.up = false;
                burnt++;
            }
        }

        int upSet() {
            int set = 0;
            for (int i = 0; i < wreckCount; i++) {
                if (wrecks[i].up) {
                    set |= 1 << i;
                }
            }
            return set;
        }

        int upMass() {
            int sum = 0;
            for (int i = 0; i < wreckCount; i++) {
                sum += wrecks[i].up ? wrecks[i].mass : 0;
            }
            return sum;
        }

        int upHeights() {
            int set = 0;
            for (int i = 0; i < wreckCount; i++) {
                set |= wrecks[i].up ? 1 << wrecks[i].height : 0;
            }
            return set;
        }

        int upPlaces() {
            int set = 0;
            for (int i = 0; i < wreckCount; i++) {
                set |= wrecks[i].up ? 1 << wrecks[i].place : 0;
            }
            return set;
        }

        int upPlaceSum() {
            int sum = 0;
            for (int i = 0; i < wreckCount; i++) {
                sum += wrecks[i].up ? wrecks[i].place : 0;
            }
            return sum;
        }
    }

    /** Thinks ahead on a SKY of its own, so that the one it is asked of stays as it is. */
    static final class Foresight {
        private final Sky then = new Sky();
        /** For each k the PLACES, as a set, from which one who starts behind k HOURS meets a WRECK. */
        private final int[] blocked = new int[MOST_HOLE + 1];
        private final int[] sums = new int[PLACES];
        private int chosen = NONE;
        private int amount = NONE;

        /** Of the last choice: what 0 which one was chosen, 1 its number. */
        int toldOf(int what) {
            return what == 0 ? chosen : amount;
        }

        private void chooseNone() {
            chosen = NONE;
            amount = NONE;
        }

        private void chooseIfLess(int which, int number) {
            if (chosen == NONE || number < amount) {
                chosen = which;
                amount = number;
            }
        }

        Sky behindHours(Sky sky, int n) {
            then.becomeAs(sky);
            then.passHours(n);
            return then;
        }

        int firstBreak(Sky sky) {
            then.becomeAs(sky);
            for (int i = 1; i <= MOST_FIRST; i++) {
                then.passHours(1);
                if (then.broken > sky.broken) {
                    return i;
                }
            }
            return NONE;
        }

        void findHoles(Sky sky) {
            then.becomeAs(sky);
            Arrays.fill(blocked, 0);
            for (int t = 0; t < MOST_HOLE + HEIGHTS; t++) {
                if (t > 0) {
                    then.passHours(1);
                }
                blockAt(t);
            }
        }

        private void blockAt(int t) {
            for (int i = 0; i < then.wreckCount; i++) {
                Wreck w = then.wrecks[i];
                int start = t - w.height;
                if (w.up && within(start, 0, MOST_HOLE)) {
                    blocked[start] |= 1 << w.place;
                }
            }
        }

        int holeOver(int place) {
            for (int k = 0; k <= MOST_HOLE; k++) {
                if ((blocked[k] >> place & 1) == 0) {
                    return k;
                }
            }
            return NONE;
        }

        void chooseSweep(Sky sky, int n) {
            chooseNone();
            for (int i = 0; i < sky.wreckCount; i++) {
                if (sky.wrecks[i].up) {
                    then.becomeAs(sky);
                    then.wrecks[i].up = false;
                    then.passHours(n);
                    chooseIfLess(i, then.broken);
                }
            }
        }

        void choosePace(Sky sky, int wreck, int n) {
            chooseNone();
            for (int pace = -MOST_PACE; pace <= MOST_PACE; pace++) {
                then.becomeAs(sky);
                then.wrecks[wreck].pace = pace;
                then.passHours(n);
                chooseIfLess(pace, then.broken);
            }
        }

        void choosePlaceUnder(Sky sky, int n) {
            then.becomeAs(sky);
            Arrays.fill(sums, 0);
            for (int i = 0; i < n; i++) {
                then.passHours(1);
                int over = then.upPlaces();
                for (int place = 0; place < PLACES; place++) {
                    sums[place] += over >> place & 1;
                }
            }
            chosen = 0;
            for (int place = 1; place < PLACES; place++) {
                chosen = sums[place] > sums[chosen] ? place : chosen;
            }
            amount = sums[chosen];
        }

        int nearestWay(Sky sky, int wreck, int n) {
            then.becomeAs(sky);
            int least = nearestNow(wreck);
            for (int i = 0; i < n; i++) {
                then.passHours(1);
                least = Math.min(least, nearestNow(wreck));
            }
            return least < PLACES ? least : NONE;
        }

        /** PLACES, which no way round reaches, when there is none. */
        private int nearestNow(int wreck) {
            Wreck own = then.wrecks[wreck];
            int least = PLACES;
            for (int i = 0; i < then.wreckCount && own.up; i++) {
                Wreck w = then.wrecks[i];
                if (i != wreck && w.up && w.height == own.height) {
                    least = Math.min(least, wayRound(own.place, w.place));
                }
            }
            return least;
        }

        void chooseSeen(Sky sky, Sheet sheet) {
            then.becomeAs(sky);
            Arrays.fill(sums, 0);
            for (int k = 0; k < sheet.size; k++) {
                if (k > 0) {
                    then.passHours(1);
                }
                for (int i = 0; i < sky.wreckCount && sheet.hasNumber(k); i++) {
                    sums[i] += wayRound(then.wrecks[i].place, Math.floorMod(sheet.cells[k], PLACES));
                }
            }
            chooseNone();
            for (int i = 0; i < sky.wreckCount; i++) {
                chooseIfLess(i, sums[i]);
            }
        }

        /** How many of the told numbers stand ahead of the first that is not as due: all, if none is. */
        int rightOnes(Sky from, int pairs, int[] numbers, int told) {
            then.becomeAs(from);
            int right = 0;
            for (int i = 0; i < pairs; i++) {
                then.passHours(1);
                if (right >= told || numbers[right] != then.broken) {
                    return right;
                }
                right++;
                if (right >= told || numbers[right] != then.upPlaceSum()) {
                    return right;
                }
                right++;
            }
            return right;
        }
    }

    /** A law, as a row in which each sign stands behind what it works on. */
    static final class Text {
        static final int HARD = 0, FEE = 1, FINE = 2;
        /** In the row, what is 0 or more is a NUMBER; NAMES and signs stand below it, so that one int does. */
        static final int FIRST_NAME = -1, SECOND_NAME = -2, THIRD_NAME = -3;

        final int key;
        final int operands;
        private final int[] row;

        Text(int key, int operands, int[] row) {
            this.key = key;
            this.operands = operands;
            this.row = row;
        }

        int valueOf(int first, int second, int third, int[] stack) {
            int top = 0;
            for (int i = 0; i < row.length && top < stack.length; i++) {
                int step = row[i];
                if (step >= THIRD_NAME) {
                    stack[top] = operand(step, first, second, third);
                    top++;
                } else if (step == -'!') {
                    if (top >= 1) {
                        stack[top - 1] = stack[top - 1] == 0 ? 1 : 0;
                    }
                } else if (top >= 2) {
                    top--;
                    stack[top - 1] = joined(-step, stack[top - 1], stack[top]);
                }
            }
            return top > 0 ? stack[0] : 0;
        }

        private static int operand(int step, int first, int second, int third) {
            switch (step) {
                case FIRST_NAME: return first;
                case SECOND_NAME: return second;
                case THIRD_NAME: return third;
                default: return step;
            }
        }

        private static int joined(int sign, int a, int b) {
            switch (sign) {
                case '|': return a != 0 || b != 0 ? 1 : 0;
                case '&': return a != 0 && b != 0 ? 1 : 0;
                case '<': return a < b ? 1 : 0;
                case '=': return a == b ? 1 : 0;
                case '>': return a > b ? 1 : 0;
                case '+': return a + b;
                case '-': return a - b;
                case '*': return a * b;
                default: return b == 0 ? 0 : a / b;
            }
        }
    }

    static final class Tape {
        final int[] bytes = new int[MOST_BYTES];
        int length = 0;

        boolean hasRoomFor(int many) {
            return length + many <= MOST_BYTES;
        }

        void addBytes(int four) {
            for (int shift = 24; shift >= 0 && length < MOST_BYTES; shift -= 8) {
                bytes[length] = four >>> shift & 255;
                length++;
            }
        }
    }

    /** Reads THE TAPE as a TEXT, one word or sign at a time, so that it stands at the FAULT when it finds it. */
    static final class Reader {
        private static final int SIGN = 0, LETTERS = 1, DIGITS = 2, END = 3;
        private static final int TEST = 2, PIECE = 5;
        private static final int MOST_OPEN = 8, MOST_DIGITS = 4;

        private final Tape tape;
        private final int[] row = new int[MOST_BYTES];
        private int rowLength;
        private int operands;
        private String names = "";
        /** Of the word or sign that is looked at: its sort, its first byte, the byte behind it. */
        private int sort;
        private int start;
        private int end;
        /** Whether it is a word right behind another one. */
        private boolean glued;
        /** The place of the FAULT, or -1. */
        int fault;

        Reader(Tape tape) {
            this.tape = tape;
        }

        /** The TEXT, or null with its FAULT. */
        Text readTape() {
            rowLength = 0;
            operands = 0;
            sort = SIGN;
            end = 0;
            fault = -1;
            step();
            int key = readKey();
            if (fault < 0) {
                readLevel(0, 0, 0);
            }
            if (sort != END) {
                fail();
            }
            return fault < 0 ? new Text(key, operands, Arrays.copyOf(row, rowLength)) : null;
        }

        /** The first FAULT counts: behind it nothing is looked at any more, so none is found elsewhere. */
        private void fail() {
            if (fault < 0) {
                fault = start;
            }
        }

        private void step() {
            if (fault >= 0) {
                return;
            }
            int before = end;
            boolean behindWord = sort != SIGN;
            start = before;
            while (start < tape.length && tape.bytes[start] == ' ') {
                start++;
            }
            sort = start < tape.length ? sortOf(tape.bytes[start]) : END;
            end = Math.min(start + 1, tape.length);
            while (sort != SIGN && end < tape.length && sortOf(tape.bytes[end]) == sort) {
                end++;
            }
            glued = behindWord && sort != SIGN && start == before;
        }

        private static int sortOf(int b) {
            if (b >= 'a' && b <= 'z') {
                return LETTERS;
            }
            return b >= '0' && b <= '9' ? DIGITS : SIGN;
        }

        private int readKey() {
            int key = Text.HARD;
            names = "mhp";
            if (isWord("fee")) {
                key = Text.FEE;
                names = "bu";
            } else if (isWord("fine")) {
                key = Text.FINE;
                names = "mp";
            } else if (!isWord("hard")) {
                fail();
            }
            step();
            return key;
        }

        private boolean isWord(String word) {
            if (sort != LETTERS || end - start != word.length()) {
                return false;
            }
            for (int i = 0; i < word.length(); i++) {
                if (tape.bytes[start + i] != word.charAt(i)) {
                    return false;
                }
            }
            return true;
        }

        private boolean isSign(int sign) {
            return sort == SIGN && tape.bytes[start] == sign;
        }

        private boolean joinsAt(int level) {
            switch (level) {
                case 0: return isSign('|');
                case 1: return isSign('&');
                case TEST: return isSign('<') || isSign('=') || isSign('>');
                case 3: return isSign('+') || isSign('-');
                default: return isSign('*') || isSign('/');
            }
        }

        /** Levels 0 .. 5 are OR, AND, TEST, SUM, TERM, PIECE; open are the ( and the ! around it. */
        private void readLevel(int level, int openRounds, int openNots) {
            if (level == PIECE) {
                readPiece(openRounds, openNots);
                return;
            }
            readLevel(level + 1, openRounds, openNots);
            int most = level == TEST ? 1 : MOST_BYTES;
            for (int i = 0; i < most && fault < 0 && joinsAt(level); i++) {
                int sign = tape.bytes[start];
                step();
                readLevel(level + 1, openRounds, openNots);
                put(-sign);
            }
        }

        private void readPiece(int openRounds, int openNots) {
            if (sort == DIGITS && !glued) {
                readNumber();
            } else if (sort == LETTERS && !glued) {
                readName();
            } else if (isSign('!') && openNots < MOST_OPEN) {
                step();
                readPiece(openRounds, openNots + 1);
                put(-'!');
            } else if (isSign('(') && openRounds < MOST_OPEN) {
                step();
                readLevel(0, openRounds + 1, openNots);
                if (!isSign(')')) {
                    fail();
                }
                step();
            } else {
                fail();
            }
        }

        private void readNumber() {
            if (end - start > MOST_DIGITS) {
                fail();
                return;
            }
            int number = 0;
            for (int i = start; i < end; i++) {
                number = 10 * number + tape.bytes[i] - '0';
            }
            operands++;
            put(number);
            step();
        }

        private void readName() {
            int name = end - start == 1 ? names.indexOf((char) tape.bytes[start]) : -1;
            if (name < 0) {
                fail();
                return;
            }
            operands++;
            put(Text.FIRST_NAME - name);
            step();
        }

        private void put(int step) {
            if (rowLength < MOST_BYTES) {
                row[rowLength] = step;
                rowLength++;
            }
        }
    }

    /** A row of whole numbers, of shorts or of floats; NONE stands where there is NO NUMBER. */
    static final class Sheet {
        static final int MISSING = -1, SHORTS = 0, FLOATS = 1;

        final int[] cells = new int[MOST_CELLS];
        int sort = MISSING;
        int size = 0;

        void becomeBlank(int newSort, int newSize) {
            sort = newSort;
            size = newSize;
            Arrays.fill(cells, 0);
        }

        void becomeAs(Sheet other) {
            sort = other.sort;
            size = other.size;
            System.arraycopy(other.cells, 0, cells, 0, MOST_CELLS);
        }

        boolean isMissing() {
            return sort == MISSING;
        }

        boolean hasPlace(int place) {
            return within(place, 0, size - 1);
        }

        /** Written so that no sum can wrap. */
        boolean hasPlaces(int place, int many) {
            return many >= 0 && within(place, 0, size) && many <= size - place;
        }

        boolean hasNumber(int place) {
            return hasPlace(place) && cells[place] != NONE;
        }
    }

    static final class Slot {
        final Wreck wreck = new Wreck();
        final Sheet sheet = new Sheet();
        int number = 0;
        int thing = HOLDS_NOTHING;
    }
}

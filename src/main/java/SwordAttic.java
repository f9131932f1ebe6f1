/** An attic in which swords are put to bed; shared/DOC.md says what each call answers. */
public final class SwordAttic {
    public static final int BAD = -1, NOT = -2, FULL = -3, STATE = -5, VOID = -2000000000;

    private static final int NOTHING_THERE = -11, OTHER_KIND = -12, NO_PLACE = -13, SIZE_BELOW_0 = -14;
    private static final int COTS = 12, ROW_OF_COTS = 6, MOST_SWORDS = 10, MOST_MIND = 99, HOURS_OF_CLOCK = 12;
    private static final int MOST_HOURS = 24, MOST_DID = 9, MOST_YEARS = 99, MOST_TELLING = 9, SHELVES = 6;
    private static final int COT = 0, DID = 1, YEARS = 2, MIND = 3, HELD = 4, HOUR = 5, SLEEPS = 6, CANDLE = 7;
    private static final int IN_COT = 8;
    /** The greatest number that each what of mend() may become. */
    private static final int[] GREATEST = {11, 9, 99, 99, 1, 11, 50, 11};
    /** For each COT the bits of those BESIDE it. */
    private static final int[] BESIDE = {
        0x042, 0x085, 0x10A, 0x214, 0x428, 0x810, 0x081, 0x142, 0x284, 0x508, 0xA10, 0x420};

    private final Night now = new Night();
    private final Law law = new Law();
    private final Tape tape = new Tape();
    private final Thought thought = new Thought(now, law);
    private final Changes changes = new Changes();
    private final Deeds deeds = new Deeds();
    private final Blades blades = new Blades();
    private final Shelf[] shelves = new Shelf[SHELVES];

    public SwordAttic() {
        for (int i = 0; i < SHELVES; i++) {
            shelves[i] = new Shelf();
        }
    }

    // ---- swords

    public int sword(int cot, int did) {
        if (!now.mayCome(cot, did, 0)) {
            return BAD;
        }
        return now.swords < MOST_SWORDS ? now.add(cot, did, Night.FIRST_YEARS) : FULL;
    }

    public int swords(int shelf, int i, int n) {
        if (!isShelf(shelf) || !within(n, 1, MOST_SWORDS)) {
            return BAD;
        }
        Shelf from = shelves[shelf];
        if (from.holdsNothing()) {
            return 0;
        }
        return from.holdsBytes() ? now.addFrom(from, i, n) : OTHER_KIND;
    }

    public int mend(int number, int what, int v) {
        if (!isMendable(number, what) || !within(v, 0, GREATEST[what])) {
            return BAD;
        }
        if (what == COT && now.isTakenByOther(v, number)) {
            return BAD;
        }
        int was = now.get(number, what);
        if (was != v) {
            now.set(number, what, v);
            changes.add(number, what, was, v);
        }
        return was;
    }

    public int of(int number, int what) {
        if (what == IN_COT) {
            return isCot(number) ? (now.inCot[number] < 0 ? NOT : now.inCot[number]) : BAD;
        }
        return isMendable(number, what) ? now.get(number, what) : BAD;
    }

    public int feed(int letter) {
        if (!within(letter, 0, 255)) {
            return BAD;
        }
        return tape.add(letter) ? tape.size : FULL;
    }

    public int law() {
        int fault = tape.read();
        tape.size = 0;
        if (fault >= 0) {
            return -100 - fault;
        }
        law.become(tape.draft);
        return 1;
    }

    public int grows(int sword) {
        return isSword(sword) ? now.growthNow(law, sword) : VOID;
    }

    // ---- hours in thought

    public int later(int shelf, int n, int sword) {
        if (!isShelf(shelf) || !within(n, 0, MOST_HOURS) || !isSword(sword)) {
            return BAD;
        }
        int refusal = refusalOfBytes(shelves[shelf]);
        return refusal != 0 ? refusal : thought.behind(shelves[shelf], n).mind[sword];
    }

    public int awake(int shelf, int n, int what) {
        if (!isShelf(shelf) || !within(n, 0, MOST_HOURS) || !within(what, 0, 1)) {
            return BAD;
        }
        int refusal = refusalOfBytes(shelves[shelf]);
        if (refusal != 0) {
            return refusal;
        }
        Night then = thought.behind(shelves[shelf], n);
        return what == 0 ? then.awakeSwords() : then.mindOfAll();
    }

    public int cries(int shelf, int sword, int x) {
        if (!isShelf(shelf) || !isSword(sword) || !within(x, 0, MOST_MIND)) {
            return BAD;
        }
        int refusal = refusalOfBytes(shelves[shelf]);
        return refusal != 0 ? refusal : thought.firstCry(shelves[shelf], sword, x);
    }

    public int asleep(int shelf) {
        if (!isShelf(shelf)) {
            return BAD;
        }
        int refusal = refusalOfBytes(shelves[shelf]);
        return refusal != 0 ? refusal : thought.firstSilence(shelves[shelf]);
    }

    public int bestRound(int n, int k) {
        if (!within(n, 0, Thought.MOST_PLANNED) || !within(k, -2, n - 1)) {
            return BAD;
        }
        thought.planRound(n);
        if (k == -1) {
            return thought.fewestAwake;
        }
        return k == -2 ? thought.leastMind : thought.bestCots[k];
    }

    public int told(int what) {
        if (!within(what, 0, 1)) {
            return BAD;
        }
        return now.canAllBeTold() ? (what == 0 ? now.howManyAwake() : now.mindOfAllTold()) : NOT;
    }

    public int woken(int cot, int what) {
        if (!isCot(cot) || !within(what, 0, 1)) {
            return BAD;
        }
        Night then = thought.fresh();
        int touched = then.touchFrom(cot);
        return what == 0 ? then.wokenSwords : touched;
    }

    public int walk(int what) {
        if (!within(what, 0, 2)) {
            return BAD;
        }
        if (what == 2) {
            return thought.stepsByAll();
        }
        int nearest = now.nearestAwakeCot();
        if (nearest < 0) {
            return NOT;
        }
        return what == 0 ? steps(now.candle, nearest) : nearest;
    }

    // ---- what was cried, dealing

    public int judge(int ss, int sword) {
        if (!areShelves(ss) || !isSword(sword)) {
            return BAD;
        }
        int refusal = refusalOfBoth(ss);
        return refusal != 0 ? refusal : thought.judged(shelves[ss / 10], shelves[ss % 10], sword);
    }

    public int fits(int ss, int ab, int what) {
        if (!areShelves(ss) || ab < 0 || !isSword(ab / 10) || !isSword(ab % 10) || !within(what, 0, 3)) {
            return BAD;
        }
        int refusal = refusalOfBoth(ss);
        if (refusal != 0) {
            return refusal;
        }
        thought.fit(shelves[ss / 10], shelves[ss % 10], ab, what < 2 ? DID : YEARS);
        return what % 2 == 0 ? thought.fitting : thought.leastFitting;
    }

    public int dealt(int what) {
        if (!within(what, 0, 1)) {
            return BAD;
        }
        thought.deal();
        return what == 0 ? thought.fewestAwake : thought.bestPair;
    }

    public int lines(int x) {
        if (!within(x, -2, 2 * MOST_DID)) {
            return BAD;
        }
        if (x >= 0) {
            return now.pairsOf(x);
        }
        int apart = now.mostApart();
        return x == -1 ? Integer.bitCount(apart) : apart;
    }

    public int byTurns(int n, int what) {
        if (!within(n, 1, Thought.MOST_TURNS) || !within(what, 0, 1)) {
            return BAD;
        }
        int awakeThen = thought.playTurns(n);
        return what == 0 ? awakeThen : thought.auntsFirst;
    }

    public int drawn(int seed, int nmt, int sword) {
        int nights = nmt / 10000;
        int hours = nmt / 100 % 100;
        int touches = nmt % 100;
        if (!within(nights, 1, 30) || !within(hours, 1, MOST_HOURS) || !within(touches, 0, COTS)) {
            return BAD;
        }
        if (sword != -1 && !isSword(sword)) {
            return BAD;
        }
        return thought.drawNights(seed, nights, hours, touches, sword);
    }

    // ---- in deed

    public int hour(int cot) {
        if (!isCot(cot)) {
            return BAD;
        }
        int before = now.awakeSwords();
        now.candle = cot;
        now.passHour(law, cot);
        int behind = now.awakeSwords();
        deeds.add(Deeds.HOURS, 1);
        deeds.add(Deeds.CRIES, Integer.bitCount(behind & ~before));
        return Integer.bitCount(behind);
    }

    public int telling(int cot, int n) {
        if (!isCot(cot) || !within(n, 0, MOST_TELLING)) {
            return BAD;
        }
        int sword = now.inCot[cot];
        if (!isSword(sword)) {
            return STATE;
        }
        now.tellAt(cot, n);
        deeds.add(Deeds.TELLINGS, 1);
        return now.mind[sword];
    }

    public int touch(int cot) {
        if (!isCot(cot)) {
            return BAD;
        }
        if (now.inCot[cot] < 0) {
            return STATE;
        }
        now.touchFrom(cot);
        int wokenNow = Integer.bitCount(now.wokenSwords);
        deeds.add(Deeds.TOUCHES, 1);
        deeds.add(Deeds.WOKEN, wokenNow);
        return wokenNow;
    }

    public int hold(int sword, int how) {
        if (!isSword(sword) || !within(how, 0, 1)) {
            return BAD;
        }
        int was = now.held[sword];
        now.held[sword] = how;
        return was;
    }

    public int led(int what) {
        return within(what, 0, Deeds.KINDS - 1) ? deeds.told[what] : BAD;
    }

    public int image() {
        deeds.keepImage(now);
        return deeds.told[Deeds.HOURS];
    }

    public int back() {
        if (!deeds.hasImage) {
            return STATE;
        }
        deeds.layBack(now);
        return deeds.told[Deeds.HOURS];
    }

    public int undo() {
        return changes.stepBack(now) ? changes.done : STATE;
    }

    public int redo() {
        return changes.stepOn(now) ? changes.size - changes.done : STATE;
    }

    // ---- acts, shelves

    public int body(int kind) {
        if (!within(kind, 0, Blades.KINDS - 1)) {
            return BAD;
        }
        return blades.size < Blades.MOST ? blades.add(kind) : FULL;
    }

    public int act(int body, int act, int x) {
        return blades.perform(body, act, x);
    }

    public int trace(int i) {
        return within(i, 0, Math.min(blades.ran, Blades.MOST_TRACED) - 1) ? blades.traced[i] : BAD;
    }

    public int keep(int shelf, int body) {
        if (!isShelf(shelf) || !within(body, -1, blades.size - 1)) {
            return BAD;
        }
        if (body < 0) {
            shelves[shelf].clear();
        } else {
            shelves[shelf].holdBlade(blades.kinds[body]);
        }
        return 1;
    }

    public int row(int shelf, int sort, int n) {
        if (!isShelf(shelf) || !within(sort, 0, Shelf.BOOLEANS) || n > Shelf.MOST_ELEMENTS) {
            return BAD;
        }
        if (n < 0) {
            return SIZE_BELOW_0;
        }
        shelves[shelf].holdRow(sort, n);
        return 1;
    }

    public int put(int shelf, int i, long v) {
        int refusal = refusalOfElement(shelf, i);
        if (refusal != 0) {
            return refusal;
        }
        shelves[shelf].store(i, v);
        return 1;
    }

    public long element(int shelf, int i) {
        return refusalOfElement(shelf, i) != 0 ? Long.MIN_VALUE : shelves[shelf].elements[i];
    }

    public int shift(int shelf, int i, int other, int j, int n) {
        if (!isShelf(shelf) || !isShelf(other)) {
            return BAD;
        }
        Shelf from = shelves[shelf];
        Shelf to = shelves[other];
        if (from.holdsNothing() || to.holdsNothing()) {
            return NOTHING_THERE;
        }
        if (!from.holdsRow() || !to.holdsRow() || from.sort != to.sort) {
            return OTHER_KIND;
        }
        if (!from.hasPlaces(i, n) || !to.hasPlaces(j, n)) {
            return NO_PLACE;
        }
        System.arraycopy(from.elements, i, to.elements, j, n);
        return n;
    }

    public int taken(int shelf, int k) {
        if (!isShelf(shelf) || !within(k, 0, Blades.KINDS - 1)) {
            return BAD;
        }
        Shelf from = shelves[shelf];
        if (from.holdsNothing()) {
            return NOTHING_THERE;
        }
        return from.holdsBlade() && Blades.isUnder(from.kind, k) ? from.kind : OTHER_KIND;
    }

    public int count(int what) {
        switch (what) {
            case 0: return now.swords;
            case 1: return now.howManyAwake();
            case 2: return tape.size;
            case 3: return changes.done;
            case 4: return blades.size;
            case 5: return blades.ran;
            default: return BAD;
        }
    }

    // ---- what the calls ask of their numbers

    private static boolean within(int v, int least, int greatest) {
        return v >= least && v <= greatest;
    }

    private static int heldWithin(int v, int least, int greatest) {
        return Math.max(least, Math.min(greatest, v));
    }

    private static boolean isCot(int cot) {
        return within(cot, 0, COTS - 1);
    }

    /** The least steps between two COTS: the two rows are a grid without walls. */
    private static int steps(int a, int b) {
        return Math.abs(a % ROW_OF_COTS - b % ROW_OF_COTS) + Math.abs(a / ROW_OF_COTS - b / ROW_OF_COTS);
    }

    private static boolean isShelf(int shelf) {
        return within(shelf, 0, SHELVES - 1);
    }

    private static boolean areShelves(int ss) {
        return ss >= 0 && isShelf(ss / 10) && isShelf(ss % 10);
    }

    private boolean isSword(int sword) {
        return within(sword, 0, now.swords - 1);
    }

    private boolean isMendable(int number, int what) {
        return within(what, COT, HELD) ? isSword(number) : within(what, HOUR, CANDLE) && number == 0;
    }

    private static int refusalOfBytes(Shelf shelf) {
        if (shelf.holdsNothing()) {
            return NOTHING_THERE;
        }
        return shelf.holdsBytes() ? 0 : OTHER_KIND;
    }

    private int refusalOfBoth(int ss) {
        int ofRound = refusalOfBytes(shelves[ss / 10]);
        return ofRound != 0 ? ofRound : refusalOfBytes(shelves[ss % 10]);
    }

    private int refusalOfElement(int shelf, int i) {
        if (!isShelf(shelf)) {
            return BAD;
        }
        Shelf from = shelves[shelf];
        if (from.holdsNothing()) {
            return NOTHING_THERE;
        }
        if (!from.holdsRow()) {
            return OTHER_KIND;
        }
        return from.hasPlaces(i, 1) ? 0 : NO_PLACE;
    }

    /** The attic as it stands at one moment, in deed or in thought. */
    private static final class Night {
        static final int FIRST_YEARS = 50, FIRST_MIND = 20, FIRST_SLEEPS = 10;
        static final int TOUCH_ADDS = 15, HOLDING_TAKES = 3;

        int swords = 0;
        int hourNow = 0;
        int sleeps = FIRST_SLEEPS;
        int candle = 0;
        int wokenSwords = 0;
        final int[] cot = new int[MOST_SWORDS];
        final int[] did = new int[MOST_SWORDS];
        final int[] years = new int[MOST_SWORDS];
        final int[] mind = new int[MOST_SWORDS];
        final int[] held = new int[MOST_SWORDS];
        /** Which SWORD is in each COT; -1: none. */
        final int[] inCot = new int[COTS];
        private final int[] growthInDark = new int[MOST_SWORDS];
        private final int[] growthInLight = new int[MOST_SWORDS];
        private final int[] queue = new int[COTS];

        Night() {
            for (int i = 0; i < COTS; i++) {
                inCot[i] = -1;
            }
        }

        void become(Night other) {
            swords = other.swords;
            sleeps = other.sleeps;
            candle = other.candle;
            System.arraycopy(other.cot, 0, cot, 0, MOST_SWORDS);
            System.arraycopy(other.did, 0, did, 0, MOST_SWORDS);
            System.arraycopy(other.years, 0, years, 0, MOST_SWORDS);
            System.arraycopy(other.held, 0, held, 0, MOST_SWORDS);
            System.arraycopy(other.inCot, 0, inCot, 0, COTS);
            becomeInMind(other);
        }

        /** Copies only what hours, tellings and touches move: the searches copy often. */
        void becomeInMind(Night other) {
            hourNow = other.hourNow;
            System.arraycopy(other.mind, 0, mind, 0, MOST_SWORDS);
        }

        boolean mayCome(int place, int deed, int ago) {
            return isCot(place) && inCot[place] < 0 && within(deed, 0, MOST_DID) && within(ago, 0, MOST_YEARS);
        }

        /** The caller has seen that it may come, and that there is room. */
        int add(int place, int deed, int ago) {
            int sword = swords++;
            cot[sword] = place;
            did[sword] = deed;
            years[sword] = ago;
            mind[sword] = FIRST_MIND;
            held[sword] = 0;
            inCot[place] = sword;
            return sword;
        }

        /** A first place that is not there, be it below 0, is where the row ends. */
        int addFrom(Shelf bytes, int first, int most) {
            int came = 0;
            while (came < most && swords < MOST_SWORDS) {
                int at = first + 3 * came;
                if (!bytes.hasPlaces(at, 3)) {
                    break;
                }
                if (!mayCome(bytes.byteAt(at), bytes.byteAt(at + 1), bytes.byteAt(at + 2))) {
                    break;
                }
                add(bytes.byteAt(at), bytes.byteAt(at + 1), bytes.byteAt(at + 2));
                came++;
            }
            return came;
        }

        boolean isTakenByOther(int place, int sword) {
            return inCot[place] >= 0 && inCot[place] != sword;
        }

        int get(int number, int what) {
            switch (what) {
                case COT: return cot[number];
                case DID: return did[number];
                case YEARS: return years[number];
                case MIND: return mind[number];
                case HELD: return held[number];
                case HOUR: return hourNow;
                case SLEEPS: return sleeps;
                default: return candle;
            }
        }

        void set(int number, int what, int v) {
            switch (what) {
                case COT: move(number, v); break;
                case DID: did[number] = v; break;
                case YEARS: years[number] = v; break;
                case MIND: mind[number] = v; break;
                case HELD: held[number] = v; break;
                case HOUR: hourNow = v; break;
                case SLEEPS: sleeps = v; break;
                default: candle = v; break;
            }
        }

        private void move(int sword, int place) {
            inCot[cot[sword]] = -1;
            cot[sword] = place;
            inCot[place] = sword;
        }

        void changeCots(int a, int b) {
            int inA = inCot[a];
            int inB = inCot[b];
            inCot[a] = inB;
            inCot[b] = inA;
            if (inA >= 0) {
                cot[inA] = b;
            }
            if (inB >= 0) {
                cot[inB] = a;
            }
        }

        boolean isAwake(int sword) {
            return mind[sword] > sleeps;
        }

        int awakeSwords() {
            int bits = 0;
            for (int i = 0; i < swords; i++) {
                bits |= isAwake(i) ? 1 << i : 0;
            }
            return bits;
        }

        int awakeCots() {
            int bits = 0;
            for (int i = 0; i < swords; i++) {
                bits |= isAwake(i) ? 1 << cot[i] : 0;
            }
            return bits;
        }

        int howManyAwake() {
            return Integer.bitCount(awakeSwords());
        }

        int mindOfAll() {
            int sum = 0;
            for (int i = 0; i < swords; i++) {
                sum += mind[i];
            }
            return sum;
        }

        private int growth(Law law, int sword, int awakeCots, int light) {
            int beside = Integer.bitCount(awakeCots & BESIDE[cot[sword]]);
            return law.growth(did[sword], years[sword], mind[sword], beside, light, hourNow);
        }

        int growthNow(Law law, int sword) {
            return growth(law, sword, awakeCots(), cot[sword] == candle ? 1 : 0);
        }

        /** An hour with the candle at a COT; -1: at none. */
        void passHour(Law law, int light) {
            int awakeCots = awakeCots();
            for (int i = 0; i < swords; i++) {
                growthInDark[i] = growth(law, i, awakeCots, cot[i] == light ? 1 : 0);
            }
            for (int i = 0; i < swords; i++) {
                grow(i, growthInDark[i]);
            }
            hourNow = (hourNow + 1) % HOURS_OF_CLOCK;
        }

        private void grow(int sword, int by) {
            mind[sword] = heldWithin(mind[sword] + by - HOLDING_TAKES * held[sword], 0, MOST_MIND);
        }

        /** Works the law out once for all places of the candle; passHourBehind() uses it. */
        void foresee(Law law) {
            int awakeCots = awakeCots();
            for (int i = 0; i < swords; i++) {
                growthInDark[i] = growth(law, i, awakeCots, 0);
                growthInLight[i] = growth(law, i, awakeCots, 1);
            }
        }

        void passHourBehind(Night foreseen, int light) {
            becomeInMind(foreseen);
            for (int i = 0; i < swords; i++) {
                grow(i, cot[i] == light ? foreseen.growthInLight[i] : foreseen.growthInDark[i]);
            }
            hourNow = (hourNow + 1) % HOURS_OF_CLOCK;
        }

        void tellAt(int place, int n) {
            int sword = inCot[place];
            if (sword < 0) {
                return;
            }
            int then = did[sword] <= n ? mind[sword] - 2 * n : mind[sword] + n;
            mind[sword] = heldWithin(then, 0, MOST_MIND);
        }

        /** Answers how many are touched; wokenSwords has the bits of those that are woken. */
        int touchFrom(int place) {
            wokenSwords = 0;
            int queued = 0;
            int seenCots = 1 << place;
            if (inCot[place] >= 0) {
                queue[queued++] = place;
            }
            for (int next = 0; next < queued && next < COTS; next++) {
                int here = queue[next];
                if (!isWokenByTouch(inCot[here])) {
                    continue;
                }
                for (int c = 0; c < COTS; c++) {
                    boolean isNew = (BESIDE[here] & ~seenCots & 1 << c) != 0;
                    if (isNew && inCot[c] >= 0 && queued < COTS) {
                        queue[queued++] = c;
                        seenCots |= 1 << c;
                    }
                }
            }
            return queued;
        }

        private boolean isWokenByTouch(int sword) {
            boolean wasAwake = isAwake(sword);
            mind[sword] = Math.min(MOST_MIND, mind[sword] + TOUCH_ADDS);
            boolean isWoken = !wasAwake && isAwake(sword);
            wokenSwords |= isWoken ? 1 << sword : 0;
            return isWoken;
        }

        /** A telling of 9 takes most from anybody, as no DID is above it: no other need be tried. */
        private int mindWhenTold(int sword) {
            return Math.max(0, mind[sword] - 2 * MOST_TELLING);
        }

        boolean canAllBeTold() {
            for (int i = 0; i < swords; i++) {
                if (isAwake(i) && mindWhenTold(i) > sleeps) {
                    return false;
                }
            }
            return true;
        }

        /** The fewest tellings are just one to each that is awake. */
        int mindOfAllTold() {
            int sum = 0;
            for (int i = 0; i < swords; i++) {
                sum += isAwake(i) ? mindWhenTold(i) : mind[i];
            }
            return sum;
        }

        int nearestAwakeCot() {
            int nearest = -1;
            for (int c = 0; c < COTS; c++) {
                boolean isAwakeThere = inCot[c] >= 0 && isAwake(inCot[c]);
                if (isAwakeThere && (nearest < 0 || steps(candle, c) < steps(candle, nearest))) {
                    nearest = c;
                }
            }
            return nearest;
        }

        int pairsOf(int least) {
            int pairs = 0;
            for (int a = 0; a < swords; a++) {
                for (int b = a + 1; b < swords; b++) {
                    boolean isBeside = (BESIDE[cot[a]] & 1 << cot[b]) != 0;
                    pairs += isBeside && did[a] + did[b] >= least ? 1 : 0;
                }
            }
            return pairs;
        }

        /** The bits of the most COTS with SWORDS of which no two are BESIDE one another. */
        int mostApart() {
            int taken = 0;
            for (int i = 0; i < swords; i++) {
                taken |= 1 << cot[i];
            }
            int best = 0;
            for (int cots = 1; cots < 1 << COTS; cots++) {
                boolean isTaken = (cots & ~taken) == 0;
                if (isTaken && areApart(cots) && Integer.bitCount(cots) > Integer.bitCount(best)) {
                    best = cots;
                }
            }
            return best;
        }

        private static boolean areApart(int cots) {
            int lastOfFirstRow = 1 << ROW_OF_COTS - 1;
            return (cots & cots >> ROW_OF_COTS) == 0 && (cots & cots >> 1 & ~lastOfFirstRow) == 0;
        }
    }

    /** THE LAW as a list of steps for a stack, so that the hours need not read its text again. */
    private static final class Law {
        static final int NUMBER = '0', NAME = 'n', NEGATE = '~', IF = '?', END = ';';
        static final int MOST_STEPS = 128, NAMES = 6;

        boolean isTold = false;
        int size = 0;
        final int[] ops = new int[MOST_STEPS];
        final int[] args = new int[MOST_STEPS];
        private final int[] stack = new int[MOST_STEPS];
        private final int[] names = new int[NAMES];

        void become(Law other) {
            isTold = true;
            size = other.size;
            System.arraycopy(other.ops, 0, ops, 0, MOST_STEPS);
            System.arraycopy(other.args, 0, args, 0, MOST_STEPS);
        }

        void add(int op, int arg) {
            if (size < MOST_STEPS) {
                ops[size] = op;
                args[size] = arg;
                size++;
            }
        }

        int growth(int d, int y, int m, int b, int c, int t) {
            if (!isTold) {
                return heldWithin(d + 3 * b - y / 20 - 8 * c - 2, -20, 20);
            }
            names[0] = d;
            names[1] = y;
            names[2] = m;
            names[3] = b;
            names[4] = c;
            names[5] = t;
            return heldWithin(workedOut(), -20, 20);
        }

        /** An IF whose first E is 0 goes on behind the END of its line. */
        private int workedOut() {
            int top = 0;
            for (int at = 0; at < size && top < MOST_STEPS; at++) {
                int op = ops[at];
                if (op == NUMBER) {
                    stack[top++] = args[at];
                } else if (op == NAME) {
                    stack[top++] = within(args[at], 0, NAMES - 1) ? names[args[at]] : 0;
                } else if (top < 1) {
                    return 0;
                } else if (op == END) {
                    return stack[top - 1];
                } else if (op == IF) {
                    top--;
                    at = stack[top] == 0 ? Math.max(at, args[at]) : at;
                } else if (op == NEGATE) {
                    stack[top - 1] = -stack[top - 1];
                } else if (op == '!') {
                    stack[top - 1] = stack[top - 1] == 0 ? 1 : 0;
                } else if (top >= 2) {
                    top--;
                    stack[top - 1] = joined(op, stack[top - 1], stack[top]);
                }
            }
            return 0;
        }

        private static int joined(int op, int a, int b) {
            switch (op) {
                case '+': return a + b;
                case '-': return a - b;
                case '*': return a * b;
                case '/': return b == 0 ? 0 : a / b;
                case '%': return b == 0 ? 0 : a % b;
                case '<': return a < b ? 1 : 0;
                case '=': return a == b ? 1 : 0;
                case '>': return a > b ? 1 : 0;
                case '&': return a != 0 && b != 0 ? 1 : 0;
                default: return a != 0 || b != 0 ? 1 : 0;
            }
        }
    }

    /** THE TAPE, and the reader that makes a draft of a law from it. */
    private static final class Tape {
        static final int MOST_BYTES = 120, MOST_OPEN = 6, MOST_DIGITS = 4, NO_BYTE = -1;

        int size = 0;
        final Law draft = new Law();
        private final int[] bytes = new int[MOST_BYTES];
        private int place = 0;
        private int fault = -1;

        boolean add(int letter) {
            if (size >= MOST_BYTES) {
                return false;
            }
            bytes[size++] = letter;
            return true;
        }

        /** Answers the place of the fault; -1: there is none, and the draft is the law told. */
        int read() {
            place = 0;
            fault = -1;
            draft.size = 0;
            readLine();
            for (int n = 0; n < MOST_BYTES && next() == ';'; n++) {
                place++;
                readLine();
            }
            if (place < size) {
                noteFault();
            }
            return fault;
        }

        /** Behind a fault there is no byte, so that all that reads comes to its end. */
        private int next() {
            return fault < 0 && within(place, 0, size - 1) ? bytes[place] : NO_BYTE;
        }

        private void noteFault() {
            if (fault < 0) {
                fault = place;
            }
        }

        private void readLine() {
            readOr(0);
            int ifAt = -1;
            if (next() == '?') {
                place++;
                ifAt = draft.size;
                draft.add(Law.IF, 0);
                readOr(0);
            }
            if (within(ifAt, 0, Law.MOST_STEPS - 1)) {
                draft.args[ifAt] = draft.size;
            }
            draft.add(Law.END, 0);
        }

        private void readOr(int open) {
            readAnd(open);
            for (int n = 0; n < MOST_BYTES && next() == '|'; n++) {
                place++;
                readAnd(open);
                draft.add('|', 0);
            }
        }

        private void readAnd(int open) {
            readComparison(open);
            for (int n = 0; n < MOST_BYTES && next() == '&'; n++) {
                place++;
                readComparison(open);
                draft.add('&', 0);
            }
        }

        private void readComparison(int open) {
            readSum(open);
            int op = next();
            if (op == '<' || op == '=' || op == '>') {
                place++;
                readSum(open);
                draft.add(op, 0);
            }
        }

        private void readSum(int open) {
            readProduct(open);
            for (int n = 0; n < MOST_BYTES && (next() == '+' || next() == '-'); n++) {
                int op = next();
                place++;
                readProduct(open);
                draft.add(op, 0);
            }
        }

        private void readProduct(int open) {
            readOperand(open);
            for (int n = 0; n < MOST_BYTES && (next() == '*' || next() == '/' || next() == '%'); n++) {
                int op = next();
                place++;
                readOperand(open);
                draft.add(op, 0);
            }
        }

        private void readOperand(int open) {
            int letter = next();
            int name = nameOf(letter);
            boolean opens = letter == '(' || letter == '!' || letter == '-';
            if (within(letter, '0', '9')) {
                readNumber();
            } else if (name >= 0) {
                place++;
                draft.add(Law.NAME, name);
            } else if (opens && open < MOST_OPEN) {
                place++;
                readOpened(letter, open + 1);
            } else {
                noteFault();
            }
        }

        private void readOpened(int opener, int open) {
            if (opener != '(') {
                readOperand(open);
                draft.add(opener == '!' ? '!' : Law.NEGATE, 0);
                return;
            }
            readOr(open);
            if (next() == ')') {
                place++;
            } else {
                noteFault();
            }
        }

        private void readNumber() {
            int value = 0;
            for (int n = 0; n < MOST_DIGITS && within(next(), '0', '9'); n++) {
                value = value * 10 + next() - '0';
                place++;
            }
            draft.add(Law.NUMBER, value);
        }

        private static int nameOf(int letter) {
            switch (letter) {
                case 'd': return 0;
                case 'y': return 1;
                case 'm': return 2;
                case 'b': return 3;
                case 'c': return 4;
                case 't': return 5;
                default: return -1;
            }
        }
    }

    /** What would be: all searches work on nights of their own, made once. */
    private static final class Thought {
        static final int MOST_PLANNED = 3, MOST_TURNS = 4, NO_COT = 12, NO_PAIR = -9, AUNT_TELLS = 4;
        static final int MOST_STOPS = 6;
        /** Above every number that a search can come to. */
        static final int FAR_ABOVE = 1000000;

        int fewestAwake = 0;
        int leastMind = 0;
        final int[] bestCots = new int[MOST_PLANNED];
        int fitting = 0;
        int leastFitting = 0;
        int bestPair = 0;
        int auntsFirst = 0;
        private final Night now;
        private final Law law;
        private final Night[] nights = new Night[MOST_TURNS + 1];
        private final int[] cots = new int[MOST_PLANNED];
        private final int[] stops = new int[MOST_STOPS];
        private final int[] stepsTo = new int[MOST_STOPS << MOST_STOPS];

        Thought(Night now, Law law) {
            this.now = now;
            this.law = law;
            for (int i = 0; i <= MOST_TURNS; i++) {
                nights[i] = new Night();
            }
        }

        /** The attic as it stands now, to be worked on. */
        Night fresh() {
            nights[0].become(now);
            return nights[0];
        }

        Night behind(Shelf round, int n) {
            Night then = fresh();
            int hours = Math.min(n, round.hours());
            for (int h = 0; h < hours; h++) {
                then.passHour(law, round.byteAt(h));
            }
            return then;
        }

        int firstCry(Shelf round, int sword, int x) {
            Night then = fresh();
            int hours = round.hours();
            for (int h = 0; h < hours && then.mind[sword] < x; h++) {
                then.passHour(law, round.byteAt(h));
                if (then.mind[sword] >= x) {
                    return h + 1;
                }
            }
            return then.mind[sword] >= x ? 0 : NOT;
        }

        int firstSilence(Shelf round) {
            Night then = fresh();
            int hours = round.hours();
            for (int h = 0; h < hours && then.awakeSwords() != 0; h++) {
                then.passHour(law, round.byteAt(h));
                if (then.awakeSwords() == 0) {
                    return h + 1;
                }
            }
            return then.awakeSwords() == 0 ? 0 : NOT;
        }

        // ---- the best round

        void planRound(int hours) {
            forgetBest();
            for (int i = 0; i <= hours; i++) {
                nights[i].become(now);
            }
            plan(0, hours);
        }

        private void forgetBest() {
            fewestAwake = FAR_ABOVE;
            leastMind = FAR_ABOVE;
        }

        /** Of COTS without a SWORD the first stands for all: the candle is wasted at each alike. */
        private void plan(int level, int hours) {
            Night here = nights[level];
            if (level >= hours) {
                if (isBetter(here)) {
                    System.arraycopy(cots, 0, bestCots, 0, MOST_PLANNED);
                }
                return;
            }
            here.foresee(law);
            boolean isWasted = false;
            for (int c = 0; c < COTS; c++) {
                if (here.inCot[c] < 0 && isWasted) {
                    continue;
                }
                isWasted = isWasted || here.inCot[c] < 0;
                cots[level] = c;
                nights[level + 1].passHourBehind(here, c);
                plan(level + 1, hours);
            }
        }

        /** Keeps the numbers of a night that is better than all ahead of it. */
        private boolean isBetter(Night then) {
            int awakeThen = then.howManyAwake();
            int mindThen = then.mindOfAll();
            if (awakeThen > fewestAwake || awakeThen == fewestAwake && mindThen >= leastMind) {
                return false;
            }
            fewestAwake = awakeThen;
            leastMind = mindThen;
            return true;
        }

        // ---- the round of all that are awake

        int stepsByAll() {
            int awakeCots = now.awakeCots();
            if (Integer.bitCount(awakeCots) > MOST_STOPS) {
                return STATE;
            }
            int n = 0;
            for (int c = 0; c < COTS; c++) {
                if ((awakeCots & 1 << c) != 0 && n < MOST_STOPS) {
                    stops[n++] = c;
                }
            }
            if (n == 0) {
                return 0;
            }
            int all = (1 << n) - 1;
            for (int seen = 1; seen <= all; seen++) {
                for (int last = 0; last < n; last++) {
                    stepsTo[seen * MOST_STOPS + last] = leastSteps(seen, last, n);
                }
            }
            return leastOf(all, n);
        }

        /** The least steps by all stops of the bits seen that end at the last. */
        private int leastSteps(int seen, int last, int n) {
            int ahead = seen & ~(1 << last);
            if (ahead == seen) {
                return FAR_ABOVE;
            }
            if (ahead == 0) {
                return steps(now.candle, stops[last]);
            }
            int least = FAR_ABOVE;
            for (int i = 0; i < n; i++) {
                least = Math.min(least, stepsTo[ahead * MOST_STOPS + i] + steps(stops[i], stops[last]));
            }
            return least;
        }

        private int leastOf(int seen, int n) {
            int least = FAR_ABOVE;
            for (int i = 0; i < n; i++) {
                least = Math.min(least, stepsTo[seen * MOST_STOPS + i]);
            }
            return least;
        }

        // ---- what was cried

        int judged(Shelf round, Shelf cried, int sword) {
            return firstWrong(fresh(), round, cried, sword);
        }

        private int firstWrong(Night then, Shelf round, Shelf cried, int sword) {
            int hours = round.hours();
            for (int i = 0; i < cried.size; i++) {
                if (i > hours) {
                    return i;
                }
                if (i > 0) {
                    then.passHour(law, round.byteAt(i - 1));
                }
                if (cried.byteAt(i) != then.mind[sword]) {
                    return i;
                }
            }
            return NOT;
        }

        void fit(Shelf round, Shelf cried, int ab, int what) {
            fitting = 0;
            leastFitting = NOT;
            for (int v = 0; v <= GREATEST[what]; v++) {
                Night then = fresh();
                then.set(ab % 10, what, v);
                if (firstWrong(then, round, cried, ab / 10) == NOT) {
                    leastFitting = fitting == 0 ? v : leastFitting;
                    fitting++;
                }
            }
        }

        // ---- dealing

        void deal() {
            forgetBest();
            Night then = fresh();
            then.passHour(law, -1);
            isBetter(then);
            bestPair = NO_PAIR;
            for (int a = 0; a < COTS; a++) {
                for (int b = a + 1; b < COTS; b++) {
                    then.become(now);
                    then.changeCots(a, b);
                    then.passHour(law, -1);
                    bestPair = isBetter(then) ? COTS * a + b : bestPair;
                }
            }
        }

        // ---- by turns

        int playTurns(int turns) {
            for (int i = 0; i <= turns; i++) {
                nights[i].become(now);
            }
            return outcome(0, turns);
        }

        /** To do nothing comes first, and a COT without a SWORD is the same as that. */
        private int outcome(int level, int turns) {
            Night here = nights[level];
            if (level >= turns) {
                return here.howManyAwake();
            }
            boolean isAunt = level % 2 == 0;
            int firstCot = isAunt ? 0 : ROW_OF_COTS;
            int chosen = NO_COT;
            nights[level + 1].becomeInMind(here);
            int best = outcome(level + 1, turns);
            for (int c = firstCot; c < firstCot + ROW_OF_COTS; c++) {
                if (here.inCot[c] < 0) {
                    continue;
                }
                int then = outcomeOf(level, turns, c);
                if (isAunt ? then < best : then > best) {
                    best = then;
                    chosen = c;
                }
            }
            auntsFirst = chosen;
            return best;
        }

        private int outcomeOf(int level, int turns, int cot) {
            Night then = nights[level + 1];
            then.becomeInMind(nights[level]);
            if (level % 2 == 0) {
                then.tellAt(cot, AUNT_TELLS);
            } else {
                then.touchFrom(cot);
            }
            return outcome(level + 1, turns);
        }

        // ---- nights by draws

        int drawNights(int seed, int howMany, int hours, int touches, int sword) {
            int z = seed;
            int sum = 0;
            Night then = fresh();
            for (int night = 0; night < howMany; night++) {
                then.becomeInMind(now);
                for (int h = 0; h < hours; h++) {
                    z = z * 1103515245 + 12345;
                    if ((z >>> 20) % COTS < touches) {
                        then.touchFrom((z >>> 16) % COTS);
                    }
                    then.passHour(law, (z >>> 8) % COTS);
                }
                sum += sword < 0 ? then.howManyAwake() : then.mind[sword];
            }
            return sum;
        }
    }

    /** CHANGES: those below done may be undone, those from there to size done again. */
    private static final class Changes {
        static final int MOST = 40;

        int size = 0;
        int done = 0;
        private final int[] numbers = new int[MOST];
        private final int[] whats = new int[MOST];
        private final int[] before = new int[MOST];
        private final int[] behind = new int[MOST];

        void add(int number, int what, int was, int becomes) {
            if (done >= MOST) {
                dropFirst();
            }
            numbers[done] = number;
            whats[done] = what;
            before[done] = was;
            behind[done] = becomes;
            done++;
            size = done;
        }

        private void dropFirst() {
            System.arraycopy(numbers, 1, numbers, 0, MOST - 1);
            System.arraycopy(whats, 1, whats, 0, MOST - 1);
            System.arraycopy(before, 1, before, 0, MOST - 1);
            System.arraycopy(behind, 1, behind, 0, MOST - 1);
            done = MOST - 1;
        }

        boolean stepBack(Night now) {
            if (done <= 0) {
                return false;
            }
            done--;
            lay(now, done, before[done]);
            return true;
        }

        boolean stepOn(Night now) {
            if (done >= size) {
                return false;
            }
            lay(now, done, behind[done]);
            done++;
            return true;
        }

        /** Another one may lie in the COT by now: then the SWORD stays, but the change counts as gone over. */
        private void lay(Night now, int change, int v) {
            boolean isBarred = whats[change] == COT && now.isTakenByOther(v, numbers[change]);
            if (!isBarred) {
                now.set(numbers[change], whats[change], v);
            }
        }
    }

    /** What LED tells, and AN IMAGE. */
    private static final class Deeds {
        static final int HOURS = 0, TELLINGS = 1, TOUCHES = 2, WOKEN = 3, CRIES = 4, KINDS = 5;

        boolean hasImage = false;
        final int[] told = new int[KINDS];
        private final int[] toldThen = new int[KINDS];
        private final int[] mindThen = new int[MOST_SWORDS];
        private final int[] heldThen = new int[MOST_SWORDS];
        private int swordsThen = 0;
        private int hourThen = 0;
        private int candleThen = 0;

        void add(int kind, int n) {
            told[kind] += n;
        }

        void keepImage(Night now) {
            hasImage = true;
            swordsThen = now.swords;
            hourThen = now.hourNow;
            candleThen = now.candle;
            System.arraycopy(now.mind, 0, mindThen, 0, swordsThen);
            System.arraycopy(now.held, 0, heldThen, 0, swordsThen);
            System.arraycopy(told, 0, toldThen, 0, KINDS);
        }

        void layBack(Night now) {
            now.hourNow = hourThen;
            now.candle = candleThen;
            System.arraycopy(mindThen, 0, now.mind, 0, swordsThen);
            System.arraycopy(heldThen, 0, now.held, 0, swordsThen);
            System.arraycopy(toldThen, 0, told, 0, KINDS);
        }
    }

    /** BODIES of KINDS, and THE TRACE of what ran in the latest act. */
    private static final class Blades {
        static final int KINDS = 8, MOST = 50, MOST_TRACED = 24, ACTS = 4, DEEPEST = 40;
        static final int RAPIER = 1, DIRK = 2, COT_KIND = 3, NASEBY = 4, AUNT = 5, CANDLE_KIND = 6, RUG = 7;
        static final int WAKES = 0, HUSHES = 1, CRIES = 2, TELLS = 3;
        /** The KIND above each; -1: none. */
        static final int[] ABOVE = {-1, 0, 0, 2, 1, 3, 0, 4};
        /** For each KIND, by fours, its own body of each ACT; 0: it has none. */
        static final int[] BODY_OF = {
            1, 10, 11, 2, 20, 0, 0, 0, 0, 30, 0, 0, 0, 41, 40, 0,
            0, 0, 50, 0, 0, 0, 0, 60, 70, 0, 0, 0, 0, 80, 0, 81};

        int size = 0;
        int ran = 0;
        final int[] kinds = new int[MOST];
        final int[] traced = new int[MOST_TRACED];
        private int number = 0;

        /** The caller has seen that there is room. */
        int add(int kind) {
            kinds[size] = kind;
            return size++;
        }

        static boolean isUnder(int kind, int k) {
            int at = kind;
            for (int n = 0; n < KINDS && at >= 0; n++) {
                if (at == k) {
                    return true;
                }
                at = ABOVE[at];
            }
            return false;
        }

        int perform(int blade, int what, int x) {
            ran = 0;
            if (!within(blade, 0, size - 1) || !within(what, 0, ACTS - 1)) {
                return 0;
            }
            number = blade;
            return from(kinds[blade], what, x, 0);
        }

        private int own(int what, int x, int depth) {
            return from(kinds[number], what, x, depth);
        }

        private int above(int kind, int what, int x, int depth) {
            return from(ABOVE[kind], what, x, depth);
        }

        /** Runs the body of the KIND, or of the next KIND above that has one. */
        private int from(int kind, int what, int x, int depth) {
            int at = kind;
            for (int n = 0; n < KINDS && at >= 0; n++) {
                int found = BODY_OF[at * ACTS + what];
                if (found != 0) {
                    return depth < DEEPEST ? run(found, x, depth + 1) : 0;
                }
                at = ABOVE[at];
            }
            return 0;
        }

        private int run(int found, int x, int depth) {
            if (ran < MOST_TRACED) {
                traced[ran] = found;
            }
            ran++;
            switch (found) {
                case 1: return x + number;
                case 2: return own(HUSHES, x, depth) - own(CRIES, 1, depth);
                case 10: return own(WAKES, x, depth) * 2;
                case 11: return x ^ number;
                case 20: return above(RAPIER, WAKES, x, depth) + 3;
                case 30: return -above(DIRK, HUSHES, x, depth);
                case 40: return above(COT_KIND, CRIES, x, depth) * 3;
                case 41: return above(COT_KIND, HUSHES, x + 1, depth);
                case 50: return above(NASEBY, CRIES, x, depth) - own(WAKES, 2, depth);
                case 60: return above(AUNT, TELLS, x, depth) ^ 5;
                case 70: return above(CANDLE_KIND, WAKES, x, depth) * 2;
                case 80: return above(RUG, HUSHES, x, depth) + own(CRIES, 2, depth);
                case 81: return above(RUG, TELLS, x, depth) - 1;
                default: return 0;
            }
        }
    }

    /** A SHELF; its elements are made once and used again by each ROW that it comes to hold. */
    private static final class Shelf {
        static final int MOST_ELEMENTS = 60, BYTES = 0, SHORTS = 1, INTS = 2, LONGS = 3, BOOLEANS = 4;
        static final int NOTHING = 0, BLADE = 1, ROW = 2;

        int kind = 0;
        int sort = 0;
        int size = 0;
        final long[] elements = new long[MOST_ELEMENTS];
        private int holds = NOTHING;

        boolean holdsNothing() {
            return holds == NOTHING;
        }

        boolean holdsBlade() {
            return holds == BLADE;
        }

        boolean holdsRow() {
            return holds == ROW;
        }

        boolean holdsBytes() {
            return holds == ROW && sort == BYTES;
        }

        void clear() {
            holds = NOTHING;
        }

        void holdBlade(int bladesKind) {
            holds = BLADE;
            kind = bladesKind;
        }

        void holdRow(int rowsSort, int n) {
            holds = ROW;
            sort = rowsSort;
            size = n;
            for (int i = 0; i < MOST_ELEMENTS; i++) {
                elements[i] = 0;
            }
        }

        /** In long, as i and n may be any ints. */
        boolean hasPlaces(int i, int n) {
            return i >= 0 && n >= 0 && (long) i + n <= size;
        }

        void store(int i, long v) {
            switch (sort) {
                case BYTES: elements[i] = (byte) v; break;
                case SHORTS: elements[i] = (short) v; break;
                case INTS: elements[i] = (int) v; break;
                case LONGS: elements[i] = v; break;
                default: elements[i] = v != 0 ? 1 : 0; break;
            }
        }

        int byteAt(int i) {
            return hasPlaces(i, 1) ? (int) elements[i] : -1;
        }

        /** How many hours it has as a ROUND. */
        int hours() {
            int n = 0;
            while (n < MOST_HOURS && n < size && isCot((int) elements[n])) {
                n++;
            }
            return n;
        }
    }
}

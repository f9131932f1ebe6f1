/** Edges of BODIES, their acts and THE TRACE: promises 32 to 34, 40. */
final class BladeEdges {
    private static final int BAD = SwordAttic.BAD, FULL = SwordAttic.FULL;
    private static final int WAKES = 0, HUSHES = 1, CRIES = 2, TELLS = 3;
    private static final int BLADE = 0, RAPIER = 1, DIRK = 2, COT = 3, NASEBY = 4, AUNT = 5, CANDLE = 6, RUG = 7;
    private static final int LEAST = Integer.MIN_VALUE, GREATEST = Integer.MAX_VALUE;
    /** For each KIND those that it may be taken for: itself, and each above it. */
    private static final int[][] ABOVE = {{0}, {1, 0}, {2, 0}, {3, 2, 0}, {4, 1, 0}, {5, 3, 2, 0}, {6, 0}, {7, 4, 1, 0}};

    private BladeEdges() {
    }

    private static void due(String call, long got, long want) {
        Check.due(call, got, want);
    }

    static void test() {
        kinds();
        body();
        numberOfEach();
        wakes();
        hushes();
        cries();
        tells();
        rapier();
        dirk();
        cot();
        naseby();
        aunt();
        candle();
        rug();
        ownOrAbove();
        trace();
        traceBounds();
        noSuchAct();
        taken();
    }

    /** An attic whose body of number n is of the KIND told; those below it are BLADES. */
    private static SwordAttic with(int kind, int n) {
        SwordAttic x = new SwordAttic();
        for (int i = 0; i < n; i++) {
            due("body", x.body(BLADE), i);
        }
        due("body", x.body(kind), n);
        return x;
    }

    /** What an act answers of a KIND with number 49, and the bodies that ran. */
    private static void acts(int kind, int act, int x, int want, int... ran) {
        SwordAttic attic = with(kind, 49);
        due("kind " + kind + ", act " + act + ", x " + x, attic.act(49, act, x), want);
        due("how many ran", attic.count(5), ran.length);
        for (int i = 0; i < ran.length; i++) {
            due("trace(" + i + ")", attic.trace(i), ran[i]);
        }
        due("behind them", attic.trace(ran.length), BAD);
    }

    private static void kinds() {
        Edge.ofTerms("BLADES' ways are kept by call as BODIES 0 .. 49, of KINDS: 0 BLADE; 1 RAPIER under BLADE; 2 DIRK under BLADE; "
            + "3 COT under DIRK; 4 NASEBY under RAPIER; 5 AUNT under COT; 6 CANDLE under BLADE; 7 RUG under NASEBY.");
        for (int kind = 0; kind < 8; kind++) {
            SwordAttic x = with(kind, 0);
            x.keep(0, 0);
            for (int k = 0; k < 8; k++) {
                due(kind + " taken for " + k, x.taken(0, k), isAmong(ABOVE[kind], k) ? kind : -12);
            }
        }
    }

    private static boolean isAmong(int[] all, int v) {
        for (int a : all) {
            if (a == v) {
                return true;
            }
        }
        return false;
    }

    private static void body() {
        Edge.of(32, "A BLADE of a KIND (0 .. 7) is kept: its number. BAD, FULL.");
        SwordAttic x = new SwordAttic();
        int[] none = {-1, 8, LEAST, GREATEST};
        for (int kind : none) {
            due("kind " + kind, x.body(kind), BAD);
        }
        due("none is kept", x.count(4), 0);
        for (int i = 0; i < 50; i++) {
            due("body " + i, x.body(7 - i % 8), i);
        }
        for (int kind = 0; kind < 8; kind++) {
            due("the 51st", x.body(kind), FULL);
        }
        for (int kind : none) {
            due("BAD ahead of FULL: " + kind, x.body(kind), BAD);
        }
        due("50", x.count(4), 50);
        due("the last is as it was", x.act(49, CRIES, 0), 49);
    }

    private static void numberOfEach() {
        Edge.ofTerms("ACTS with x (an int that wraps): 0 wakes, 1 hushes, 2 cries, 3 tells; n its number.");
        SwordAttic x = new SwordAttic();
        for (int n = 0; n < 50; n++) {
            x.body(BLADE);
            due("wakes of " + n, x.act(n, WAKES, 100), 100 + n);
            due("hushes of " + n, x.act(n, HUSHES, 100), 2 * (100 + n));
            due("cries of " + n, x.act(n, CRIES, 100), 100 ^ n);
            due("tells of " + n, x.act(n, TELLS, 100), 2 * (100 + n) - (1 ^ n));
        }
    }

    private static void wakes() {
        Edge.ofTerms("BODIES of acts: WAKES (an interface of BLADE): 1 wakes: x + n.");
        acts(BLADE, WAKES, 0, 49, 1);
        acts(BLADE, WAKES, -49, 0, 1);
        acts(BLADE, WAKES, GREATEST - 49, GREATEST, 1);
        acts(BLADE, WAKES, GREATEST - 48, LEAST, 1);
        acts(BLADE, WAKES, GREATEST, LEAST + 48, 1);
        acts(BLADE, WAKES, LEAST, LEAST + 49, 1);
    }

    private static void hushes() {
        Edge.ofTerms("BLADE: 10 hushes: wakes(x) * 2.");
        acts(BLADE, HUSHES, 1, 100, 10, 1);
        acts(BLADE, HUSHES, (1 << 30) - 49, LEAST, 10, 1);
        acts(BLADE, HUSHES, (1 << 30) - 50, GREATEST - 1, 10, 1);
        acts(BLADE, HUSHES, LEAST - 49, 0, 10, 1);
    }

    private static void cries() {
        Edge.ofTerms("11 cries: x ^ n.");
        acts(BLADE, CRIES, 49, 0, 11);
        acts(BLADE, CRIES, 0, 49, 11);
        acts(BLADE, CRIES, -1, -50, 11);
        acts(BLADE, CRIES, LEAST, LEAST + 49, 11);
        acts(BLADE, CRIES, GREATEST, GREATEST - 49, 11);
    }

    private static void tells() {
        Edge.ofTerms("TELLS (of BLADE): 2 tells: hushes(x) - cries(1).");
        acts(BLADE, TELLS, 1, 100 - 48, 2, 10, 1, 11);
        acts(BLADE, TELLS, (1 << 30) - 49, GREATEST - 47, 2, 10, 1, 11);
    }

    private static void rapier() {
        Edge.ofTerms("RAPIER: 20 wakes: super.wakes(x) + 3.");
        acts(RAPIER, WAKES, 0, 52, 20, 1);
        acts(RAPIER, WAKES, GREATEST - 51, LEAST, 20, 1);
        acts(RAPIER, HUSHES, 0, 104, 10, 20, 1);
        acts(RAPIER, CRIES, 0, 49, 11);
        acts(RAPIER, TELLS, 0, 104 - 48, 2, 10, 20, 1, 11);
    }

    private static void dirk() {
        Edge.ofTerms("DIRK: 30 hushes: -super.hushes(x).");
        acts(DIRK, WAKES, 0, 49, 1);
        acts(DIRK, HUSHES, 0, -98, 30, 10, 1);
        acts(DIRK, HUSHES, (1 << 30) - 49, LEAST, 30, 10, 1);
        acts(DIRK, TELLS, 0, -98 - 48, 2, 30, 10, 1, 11);
    }

    private static void cot() {
        Edge.ofTerms("COT: 40 cries: super.cries(x) * 3.");
        acts(COT, CRIES, 0, 147, 40, 11);
        acts(COT, CRIES, GREATEST, (GREATEST - 49) * 3, 40, 11);
        acts(COT, CRIES, LEAST, LEAST + 147, 40, 11);
        Edge.ofTerms("41 hushes: super.hushes(x + 1).");
        acts(COT, HUSHES, 0, -100, 41, 30, 10, 1);
        acts(COT, HUSHES, GREATEST, -98, 41, 30, 10, 1);
        acts(COT, TELLS, 0, -100 - 144, 2, 41, 30, 10, 1, 40, 11);
    }

    private static void naseby() {
        Edge.ofTerms("NASEBY: 50 cries: super.cries(x) - wakes(2).");
        acts(NASEBY, CRIES, 0, 49 - 54, 50, 11, 20, 1);
        acts(NASEBY, CRIES, LEAST, LEAST + 49 - 54, 50, 11, 20, 1);
        acts(NASEBY, TELLS, 0, 104 - (48 - 54), 2, 10, 20, 1, 50, 11, 20, 1);
    }

    private static void aunt() {
        Edge.ofTerms("AUNT: 60 tells: super.tells(x) ^ 5.");
        acts(AUNT, TELLS, 0, -100 - 144 ^ 5, 60, 2, 41, 30, 10, 1, 40, 11);
        acts(AUNT, HUSHES, 0, -100, 41, 30, 10, 1);
        acts(AUNT, CRIES, 0, 147, 40, 11);
        acts(AUNT, WAKES, 0, 49, 1);
    }

    private static void candle() {
        Edge.ofTerms("CANDLE: 70 wakes: super.wakes(x) * 2.");
        acts(CANDLE, WAKES, 0, 98, 70, 1);
        acts(CANDLE, WAKES, (1 << 30) - 49, LEAST, 70, 1);
        acts(CANDLE, HUSHES, 0, 196, 10, 70, 1);
        acts(CANDLE, HUSHES, (1 << 29) - 49, LEAST, 10, 70, 1);
        acts(CANDLE, TELLS, 0, 196 - 48, 2, 10, 70, 1, 11);
    }

    private static void rug() {
        Edge.ofTerms("RUG: 80 hushes: super.hushes(x) + cries(2).");
        int criesOf2 = (2 ^ 49) - 54;
        acts(RUG, HUSHES, 0, 104 + criesOf2, 80, 10, 20, 1, 50, 11, 20, 1);
        acts(RUG, CRIES, 0, 49 - 54, 50, 11, 20, 1);
        acts(RUG, WAKES, 0, 52, 20, 1);
        Edge.ofTerms("81 tells: super.tells(x) - 1.");
        acts(RUG, TELLS, 0, 104 + criesOf2 - (48 - 54) - 1, 81, 2, 80, 10, 20, 1, 50, 11, 20, 1, 50, 11, 20, 1);
        acts(RUG, TELLS, (1 << 30) - 52, LEAST + criesOf2 - (48 - 54) - 1, 81, 2, 80, 10, 20, 1, 50, 11, 20, 1, 50, 11, 20, 1);
    }

    private static void ownOrAbove() {
        Edge.ofTerms("wakes(..) and so on (act 0 is wakes): the body of its own KIND, or of the next KIND above that has one; "
            + "super: from the KIND above the body's on.");
        // the first body to run of each act, KIND by KIND
        int[][] first = {{1, 10, 11, 2}, {20, 10, 11, 2}, {1, 30, 11, 2}, {1, 41, 40, 2},
            {20, 10, 50, 2}, {1, 41, 40, 60}, {70, 10, 11, 2}, {20, 80, 50, 81}};
        for (int kind = 0; kind < 8; kind++) {
            SwordAttic x = with(kind, 3);
            for (int act = 0; act < 4; act++) {
                x.act(3, act, 5);
                due("kind " + kind + ", act " + act, x.trace(0), first[kind][act]);
            }
        }
        // from a body above, its own acts are those of the KIND that acts: RUG's hushes comes to RAPIER's wakes
        SwordAttic rug = with(RUG, 0);
        rug.act(0, HUSHES, 0);
        due("super of RUG: BLADE's", rug.trace(1), 10);
        due("its own wakes: RAPIER's", rug.trace(2), 20);
        due("super of RAPIER: WAKES'", rug.trace(3), 1);
        SwordAttic aunt = with(AUNT, 0);
        aunt.act(0, TELLS, 0);
        due("super of AUNT: TELLS'", aunt.trace(1), 2);
        due("its own hushes: COT's", aunt.trace(2), 41);
        due("super of COT: DIRK's", aunt.trace(3), 30);
    }

    private static void trace() {
        Edge.ofTerms("THE TRACE: numbers of the bodies that ran in the latest act(), as they began; the first 24 are kept.");
        SwordAttic x = with(RUG, 0);
        due("nothing ran", x.trace(0), BAD);
        due("nothing ran", x.count(5), 0);
        // the longest of all has 14: no act comes to 24
        x.act(0, TELLS, 1);
        int[] longest = {81, 2, 80, 10, 20, 1, 50, 11, 20, 1, 50, 11, 20, 1};
        due("14 ran", x.count(5), 14);
        for (int i = 0; i < 14; i++) {
            due("trace(" + i + ")", x.trace(i), longest[i]);
        }
        x.act(0, WAKES, 1);
        due("the latest alone", x.count(5), 2);
        due("the latest alone", x.trace(1), 1);
        due("the latest alone", x.trace(2), BAD);
        x.body(BLADE);
        x.keep(0, 0);
        x.taken(0, 0);
        due("it stays until the next act", x.count(5), 2);
        due("it stays until the next act", x.trace(0), 20);
    }

    private static void traceBounds() {
        Edge.of(34, "THE TRACE's i-th body. BAD.");
        SwordAttic x = with(RUG, 0);
        x.act(0, TELLS, 1);
        due("the first", x.trace(0), 81);
        due("the last", x.trace(13), 1);
        int[] none = {-1, 14, 23, 24, 25, LEAST, GREATEST};
        for (int i : none) {
            due("place " + i, x.trace(i), BAD);
        }
    }

    private static void noSuchAct() {
        Edge.of(33, "An ACT (0 .. 3) of a BLADE with x. 0, and no TRACE then: no such BLADE, ACT.");
        int[][] none = {{-1, 0}, {2, 0}, {50, 0}, {LEAST, 0}, {GREATEST, 0}, {0, -1}, {0, 4}, {0, LEAST}, {0, GREATEST}, {-1, -1}};
        for (int[] n : none) {
            SwordAttic x = with(RUG, 1);
            x.act(1, TELLS, 1);
            due("a trace", x.count(5), 14);
            due("body " + n[0] + ", act " + n[1], x.act(n[0], n[1], 7), 0);
            due("no trace", x.count(5), 0);
            due("no trace", x.trace(0), BAD);
        }
        due("no body at all", new SwordAttic().act(0, 0, 7), 0);
        SwordAttic full = with(DIRK, 49);
        due("the last", full.act(49, HUSHES, 0), -98);
        due("the 51st", full.act(50, HUSHES, 0), 0);
    }

    private static void taken() {
        Edge.of(40, "What a SHELF holds, taken for a BLADE of KIND k (0 .. 7), or under it: its KIND. BAD, -11, -12.");
        SwordAttic x = with(RUG, 49);
        int[] noShelves = {-1, 6, LEAST, GREATEST};
        int[] noKinds = {-1, 8, LEAST, GREATEST};
        for (int shelf : noShelves) {
            due("shelf " + shelf, x.taken(shelf, 0), BAD);
        }
        for (int k : noKinds) {
            due("kind " + k + " of nothing, BAD first", x.taken(5, k), BAD);
        }
        due("nothing", x.taken(5, 0), -11);
        x.keep(5, 49);
        due("RUG for RUG", x.taken(5, RUG), RUG);
        due("RUG for BLADE", x.taken(5, BLADE), RUG);
        due("RUG for DIRK", x.taken(5, DIRK), -12);
        for (int k : noKinds) {
            due("kind " + k, x.taken(5, k), BAD);
        }
        x.keep(5, 0);
        due("BLADE for BLADE", x.taken(5, BLADE), BLADE);
        due("BLADE for RUG", x.taken(5, RUG), -12);
        for (int sort = 0; sort < 5; sort++) {
            x.row(5, sort, 8);
            due("a row", x.taken(5, BLADE), -12);
        }
        x.keep(5, -1);
        due("nothing again", x.taken(5, BLADE), -11);
    }
}

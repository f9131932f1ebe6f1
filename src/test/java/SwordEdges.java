/** Edges of COTS and SWORDS, and of promises 1 to 5. */
final class SwordEdges {
    private static final int BAD = SwordAttic.BAD, NOT = SwordAttic.NOT, FULL = SwordAttic.FULL;
    /** Those BESIDE each COT, as the document lays them out. */
    private static final int[][] BESIDE = {
        {1, 6}, {0, 2, 7}, {1, 3, 8}, {2, 4, 9}, {3, 5, 10}, {4, 11},
        {7, 0}, {6, 8, 1}, {7, 9, 2}, {8, 10, 3}, {9, 11, 4}, {10, 5}};

    private SwordEdges() {
    }

    private static void due(String call, long got, long want) {
        Check.due(call, got, want);
    }

    static void test() {
        beside();
        numbers();
        cotsOnce();
        ranges();
        awake();
        emptyCots();
        sword();
        swords();
        swordsEnd();
        swordsNotSo();
        swordsFull();
        mend();
        of();
    }

    private static void beside() {
        Edge.ofTerms("11: two rows of six (BESIDE: left, right in its row, across: 0 by 6, 1 by 7 ..)");
        for (int a = 0; a < 12; a++) {
            for (int b = 0; b < 12; b++) {
                if (a != b) {
                    due(b + " beside " + a, Check.under("b", a, b).grows(0), isBeside(a, b) ? 1 : 0);
                }
            }
        }
    }

    private static boolean isBeside(int a, int b) {
        for (int c : BESIDE[a]) {
            if (c == b) {
                return true;
            }
        }
        return false;
    }

    private static void numbers() {
        Edge.ofTerms("SWORDS 0 .. 9, as they come");
        int[] cots = {11, 0, 5, 6, 3, 9, 1, 10, 2, 8};
        SwordAttic x = new SwordAttic();
        for (int i = 0; i < 10; i++) {
            due("no such yet", x.of(i, 0), BAD);
            due("sword", x.sword(cots[i], 9 - i), i);
            due("COT", x.of(i, 0), cots[i]);
            due("DID", x.of(i, 1), 9 - i);
        }
        due("10 is none", x.of(10, 0), BAD);
        due("-1 is none", x.of(-1, 0), BAD);
    }

    private static void cotsOnce() {
        Edge.ofTerms("COT (none twice)");
        SwordAttic x = Check.attic(0, 1, 11, 2);
        due("taken", x.sword(0, 0), BAD);
        due("taken", x.sword(11, 0), BAD);
        due("taken", x.mend(0, 0, 11), BAD);
        due("taken", x.mend(1, 0, 0), BAD);
        due("left", x.mend(0, 0, 5), 0);
        due("taken now", x.sword(5, 0), BAD);
        due("free again", x.sword(0, 0), 2);
        due("taken again", x.mend(0, 0, 0), BAD);
    }

    private static void ranges() {
        range("DID (0 .. 9: how grave)", 1, 9, 4);
        range("YEARS (0 .. 99 ago; 50 at first)", 2, 99, 50);
        range("MIND (0 .. 99; 20 at first)", 3, 99, 20);
        range("HELD (0, 1: by the hilt; 0 at first)", 4, 1, 0);
        range("HOUR (0 .. 11; 0 at first)", 5, 11, 0);
        range("SLEEPS (0 .. 50; 10 at first)", 6, 50, 10);
        range("The CANDLE is at a COT (0 at first)", 7, 11, 0);
    }

    private static void range(String words, int what, int greatest, int first) {
        Edge.ofTerms(words);
        SwordAttic x = Check.attic(3, 4);
        due("at first", x.of(0, what), first);
        int[] none = {-1, greatest + 1, Integer.MIN_VALUE, Integer.MAX_VALUE};
        for (int v : none) {
            due("none: " + v, x.mend(0, what, v), BAD);
            due("as it was", x.of(0, what), first);
        }
        due("the greatest", x.mend(0, what, greatest), first);
        due("the greatest", x.of(0, what), greatest);
        due("0", x.mend(0, what, 0), greatest);
        due("0", x.of(0, what), 0);
    }

    private static void awake() {
        Edge.ofTerms("A SWORD is AWAKE, if MIND is above SLEEPS.");
        SwordAttic x = Check.attic(3, 4);
        int[] sleeps = {0, 1, 10, 49, 50};
        for (int s : sleeps) {
            x.mend(0, 6, s);
            x.mend(0, 3, s);
            due("the same as SLEEPS " + s, x.count(1), 0);
            x.mend(0, 3, s + 1);
            due("one above SLEEPS " + s, x.count(1), 1);
        }
        x.mend(0, 3, 99);
        due("99", x.count(1), 1);
        x.mend(0, 3, 0);
        due("0", x.count(1), 0);
    }

    private static void emptyCots() {
        Edge.of(1, "Empty cots.");
        SwordAttic full = full();
        full.hour(3);
        full.image();
        full.row(0, 0, 5);
        SwordAttic x = new SwordAttic();
        for (int c = 0; c < 12; c++) {
            due("cot " + c, x.of(c, 8), NOT);
        }
        for (int what = 0; what < 6; what++) {
            due("count " + what, x.count(what), 0);
        }
        for (int what = 0; what < 5; what++) {
            due("led " + what, x.led(what), 0);
        }
        for (int shelf = 0; shelf < 6; shelf++) {
            due("shelf " + shelf, x.taken(shelf, 0), -11);
        }
        due("no image", x.back(), SwordAttic.STATE);
        due("no change", x.undo(), SwordAttic.STATE);
        due("the other is as it was", full.count(0), 10);
    }

    /** Ten swords, in COTS 1 to 10. */
    static SwordAttic full() {
        SwordAttic x = new SwordAttic();
        for (int i = 0; i < 10; i++) {
            due("sword", x.sword(i + 1, i), i);
        }
        return x;
    }

    private static void sword() {
        Edge.of(2, "A SWORD in a COT: its number. BAD (taken, too), FULL: 10.");
        int[] noCots = {-1, 12, Integer.MIN_VALUE, Integer.MAX_VALUE};
        int[] noDids = {-1, 10, Integer.MIN_VALUE, Integer.MAX_VALUE};
        SwordAttic x = new SwordAttic();
        for (int c : noCots) {
            due("cot " + c, x.sword(c, 0), BAD);
        }
        for (int d : noDids) {
            due("did " + d, x.sword(0, d), BAD);
        }
        due("none came", x.count(0), 0);
        due("the least", x.sword(0, 0), 0);
        due("the greatest", x.sword(11, 9), 1);
        SwordAttic full = full();
        due("the eleventh", full.sword(0, 0), FULL);
        due("the eleventh", full.sword(11, 9), FULL);
        due("taken, ahead of FULL", full.sword(1, 0), BAD);
        due("no such cot, ahead of FULL", full.sword(12, 0), BAD);
        due("no such did, ahead of FULL", full.sword(0, 10), BAD);
        due("ten still", full.count(0), 10);
        due("the cot is empty still", full.of(0, 8), NOT);
    }

    private static void swords() {
        Edge.of(3, "SWORDS FROM A ROW on a SHELF, from place i on, n (1 .. 10) of them: how many came.",
            "BAD, -12 (no ROW of bytes; a SHELF that holds nothing is missing).");
        SwordAttic x = new SwordAttic();
        int[] noN = {0, 11, -1, Integer.MIN_VALUE, Integer.MAX_VALUE};
        for (int n : noN) {
            due("n " + n, x.swords(0, 0, n), BAD);
        }
        int[] noShelf = {-1, 6, Integer.MIN_VALUE, Integer.MAX_VALUE};
        for (int s : noShelf) {
            due("shelf " + s, x.swords(s, 0, 1), BAD);
        }
        due("the row is missing", x.swords(5, 0, 1), 0);
        due("the row is missing", x.swords(5, 0, 10), 0);
        x.body(0);
        x.keep(0, 0);
        due("a blade", x.swords(0, 0, 1), -12);
        for (int sort = 1; sort < 5; sort++) {
            x.row(0, sort, 30);
            due("sort " + sort, x.swords(0, 0, 1), -12);
            due("BAD ahead of -12", x.swords(0, 0, 0), BAD);
        }
        x.keep(0, -1);
        due("missing again", x.swords(0, 0, 1), 0);
        due("nobody came", x.count(0), 0);
    }

    private static void swordsEnd() {
        Edge.ofTerms("SWORDS FROM A ROW of bytes, from a place on: by threes COT, DID, YEARS: n of them",
            "it ends where the row is missing, ends (within a three, too)");
        int[] came = {0, 0, 0, 1, 1, 1, 2, 2};
        for (int size = 0; size < came.length; size++) {
            SwordAttic x = new SwordAttic();
            Check.bytes(x, 0, java.util.Arrays.copyOf(new int[] {0, 9, 99, 11, 0, 0, 5, 5}, size));
            due("a row of " + size, x.swords(0, 0, 10), came[size]);
            due("so many are there", x.count(0), came[size]);
        }
        SwordAttic x = new SwordAttic();
        Check.bytes(x, 2, 0, 9, 99, 11, 0, 0, 5, 5, 5);
        int[] noPlaces = {7, 8, 9, 10, 60, -1, -3, Integer.MAX_VALUE, Integer.MAX_VALUE - 2, Integer.MIN_VALUE};
        for (int i : noPlaces) {
            due("from place " + i, x.swords(2, i, 10), 0);
        }
        due("from place 6", x.swords(2, 6, 10), 1);
        due("from place 0, one", x.swords(2, 0, 1), 1);
        due("COT 0", x.of(1, 0), 0);
        due("DID 9", x.of(1, 1), 9);
        due("YEARS 99", x.of(1, 2), 99);
        due("MIND", x.of(1, 3), 20);
        due("HELD", x.of(1, 4), 0);
        due("from place 3", x.swords(2, 3, 1), 1);
        due("COT 11", x.of(2, 0), 11);
        due("DID 0", x.of(2, 1), 0);
        due("YEARS 0", x.of(2, 2), 0);
    }

    private static void swordsNotSo() {
        Edge.ofTerms("one is not so (its COT taken, too)");
        int[][] notSo = {{12, 0, 0}, {-1, 0, 0}, {5, 10, 0}, {5, -1, 0}, {5, 0, 100}, {5, 0, -1}, {3, 0, 0}, {7, 0, 0},
            {127, 0, 0}, {-128, 0, 0}, {5, 127, 0}, {5, -128, 0}, {5, 0, 127}, {5, 0, -128}};
        for (int[] three : notSo) {
            SwordAttic x = Check.attic(7, 0);
            Check.bytes(x, 0, 3, 1, 2, three[0], three[1], three[2], 4, 1, 2);
            String name = three[0] + " " + three[1] + " " + three[2];
            due("those ahead of " + name, x.swords(0, 0, 10), 1);
            due("it came", x.of(3, 8), 1);
            due("none behind it came", x.of(4, 8), NOT);
            due("two", x.count(0), 2);
        }
        SwordAttic x = new SwordAttic();
        x.row(0, 0, 3);
        x.put(0, 0, 256 + 3);
        x.put(0, 1, -256 + 4);
        x.put(0, 2, 0x7FFFFFFF00000063L);
        due("a byte keeps its lowest bits", x.swords(0, 0, 1), 1);
        due("YEARS", x.of(0, 2), 99);
    }

    private static void swordsFull() {
        Edge.ofTerms("or SWORDS are FULL: those ahead came");
        SwordAttic x = new SwordAttic();
        x.row(0, 0, 60);
        for (int i = 0; i < 12; i++) {
            x.put(0, 3 * i, i);
        }
        due("ten at most of twelve", x.swords(0, 0, 10), 10);
        due("ten", x.count(0), 10);
        due("FULL already", x.swords(0, 30, 10), 0);
        due("none in 10", x.of(10, 8), NOT);
        SwordAttic y = Check.attic(0, 0, 1, 0, 2, 0, 3, 0, 4, 0, 5, 0, 6, 0, 7, 0);
        Check.bytes(y, 0, 8, 1, 1, 9, 1, 1, 10, 1, 1);
        due("two more", y.swords(0, 0, 3), 2);
        due("none in 10", y.of(10, 8), NOT);
        due("ten", y.count(0), 10);
    }

    private static void mend() {
        Edge.of(4, "COT (what 0; one that is taken: BAD), DID (1), YEARS (2), MIND (3), HELD (4) of a SWORD, HOUR (5), SLEEPS (6), "
            + "the CANDLE's COT (7; number 0 for these) becomes v: what it was. BAD.");
        SwordAttic x = Check.attic(4, 1, 5, 2);
        int[] noCots = {-1, 12, 5, Integer.MIN_VALUE, Integer.MAX_VALUE};
        for (int c : noCots) {
            due("cot " + c, x.mend(0, 0, c), BAD);
        }
        due("its own", x.mend(0, 0, 4), 4);
        due("that is no change", x.count(3), 0);
        due("COT 11", x.mend(0, 0, 11), 4);
        due("COT 0", x.mend(0, 0, 0), 11);
        int[] noNumbers = {-1, 2, 10, Integer.MIN_VALUE, Integer.MAX_VALUE};
        for (int number : noNumbers) {
            for (int what = 0; what < 8; what++) {
                due("number " + number + ", what " + what, x.mend(number, what, 1), BAD);
            }
        }
        for (int what = 5; what < 8; what++) {
            due("number 1 is no number for " + what, x.mend(1, what, 1), BAD);
            due("number 0 is one", x.mend(0, what, 1), what == 6 ? 10 : 0);
        }
        int[] greatest = {11, 9, 99, 99, 1, 11, 50, 11};
        SwordAttic full = full();
        for (int what = 0; what < 8; what++) {
            int number = what < 5 ? 9 : 0;
            due("above the greatest of " + what, full.mend(number, what, greatest[what] + 1), BAD);
            due("below the least of " + what, full.mend(number, what, -1), BAD);
            int was = full.of(number, what);
            due("the greatest of " + what, full.mend(number, what, greatest[what]), was);
            due("the least of " + what, full.mend(number, what, 0), greatest[what]);
            due("it became 0", full.of(number, what), 0);
        }
        SwordAttic empty = new SwordAttic();
        due("HOUR without a sword", empty.mend(0, 5, 11), 0);
        due("SLEEPS without a sword", empty.mend(0, 6, 50), 10);
        due("the CANDLE without a sword", empty.mend(0, 7, 11), 0);
        due("DID without a sword", empty.mend(0, 1, 1), BAD);
        int[] noWhats = {-1, 8, 9, Integer.MIN_VALUE, Integer.MAX_VALUE};
        for (int what : noWhats) {
            due("what " + what, x.mend(0, what, 0), BAD);
        }
    }

    private static void of() {
        Edge.of(5, "As of mend() (0 to 7); 8 which SWORD is in a COT (NOT: none). BAD.");
        SwordAttic x = Check.attic(0, 1, 11, 2);
        int[] noNumbers = {-1, 2, Integer.MIN_VALUE, Integer.MAX_VALUE};
        for (int number : noNumbers) {
            for (int what = 0; what < 8; what++) {
                due("number " + number + ", what " + what, x.of(number, what), BAD);
            }
        }
        for (int what = 5; what < 8; what++) {
            due("number 1 is no number for " + what, x.of(1, what), BAD);
        }
        int[] noWhats = {-1, 9, Integer.MIN_VALUE, Integer.MAX_VALUE};
        for (int what : noWhats) {
            due("what " + what, x.of(0, what), BAD);
        }
        int[] noCots = {-1, 12, Integer.MIN_VALUE, Integer.MAX_VALUE};
        for (int c : noCots) {
            due("cot " + c, x.of(c, 8), BAD);
        }
        due("in 0", x.of(0, 8), 0);
        due("in 11", x.of(11, 8), 1);
        due("none in 1", x.of(1, 8), NOT);
        due("none in 10", x.of(10, 8), NOT);
        x.mend(1, 0, 10);
        due("in 11 no more", x.of(11, 8), NOT);
        due("in 10", x.of(10, 8), 1);
        SwordAttic full = full();
        due("the last of ten", full.of(10, 8), 9);
        due("the last of ten", full.of(9, 1), 9);
    }
}

/** Edges of SHELVES and their ROWS, and of count(): promises 35 to 39, 41. */
final class ShelfEdges {
    private static final int BAD = SwordAttic.BAD;
    private static final long NONE = Long.MIN_VALUE;
    private static final int LEAST = Integer.MIN_VALUE, GREATEST = Integer.MAX_VALUE;
    private static final int[] NO_SHELVES = {-1, 6, LEAST, GREATEST};

    private ShelfEdges() {
    }

    private static void due(String call, long got, long want) {
        Check.due(call, got, want);
    }

    static void test() {
        atFirst();
        sizes();
        lowestBits();
        refusals();
        orderOfAnswers();
        keep();
        row();
        put();
        element();
        shiftPlaces();
        shiftAsBefore();
        shiftRefused();
        count();
    }

    private static void atFirst() {
        Edge.ofTerms("SHELVES 0 .. 5 each hold nothing (at first), a BLADE (a BODY), or a ROW");
        SwordAttic x = new SwordAttic();
        x.body(3);
        for (int s = 0; s < 6; s++) {
            due("nothing on " + s, x.put(s, 0, 0), -11);
            due("nothing on " + s, x.element(s, 0), NONE);
            due("nothing on " + s, x.taken(s, 0), -11);
            due("a blade", x.keep(s, 0), 1);
            due("a blade", x.taken(s, 0), 3);
            due("a row instead", x.row(s, 0, 1), 1);
            due("a row", x.put(s, 0, 5), 1);
            due("a blade instead", x.keep(s, 0), 1);
            due("no row any more", x.put(s, 0, 5), -12);
            due("nothing instead", x.keep(s, -1), 1);
            due("nothing", x.put(s, 0, 5), -11);
            due("the next is as it was", x.taken(Math.min(5, s + 1), 0), -11);
        }
        for (int s : NO_SHELVES) {
            due("shelf " + s, x.row(s, 0, 1), BAD);
        }
    }

    private static void sizes() {
        Edge.ofTerms("of 0 bytes, 1 shorts, 2 ints, 3 longs, 4 booleans, of 0 .. 60 elements, 0 at first (false)");
        int[] sizes = {0, 1, 59, 60};
        for (int sort = 0; sort < 5; sort++) {
            for (int n : sizes) {
                SwordAttic x = new SwordAttic();
                due("row", x.row(0, sort, n), 1);
                for (int i = 0; i < n; i++) {
                    due("0 at first", x.element(0, i), 0);
                }
                due("not behind its end", x.put(0, n, 1), -13);
                due("not behind its end", x.element(0, n), NONE);
                if (n > 0) {
                    due("the last", x.put(0, n - 1, 1), 1);
                    due("the last", x.element(0, n - 1), 1);
                    due("anew", x.row(0, sort, n), 1);
                    due("0 again", x.element(0, n - 1), 0);
                }
            }
        }
        SwordAttic y = new SwordAttic();
        y.row(0, 3, 60);
        y.put(0, 59, 7);
        y.row(0, 3, 5);
        y.row(0, 3, 60);
        due("0 behind a shorter one, too", y.element(0, 59), 0);
    }

    private static void lowestBits() {
        Edge.ofTerms("what is put in keeps its lowest bits (a boolean: whether it is not 0; 1 or 0).");
        long[][] cases = {
            {0, 127, 127}, {0, 128, -128}, {0, 255, -1}, {0, 256, 0}, {0, -128, -128}, {0, -129, 127}, {0, Long.MIN_VALUE, 0},
            {0, Long.MAX_VALUE, -1}, {1, 32767, 32767}, {1, 32768, -32768}, {1, 65535, -1}, {1, 65536, 0}, {1, -32768, -32768},
            {1, -32769, 32767}, {1, Long.MIN_VALUE, 0}, {1, Long.MAX_VALUE, -1}, {2, GREATEST, GREATEST}, {2, 1L << 31, LEAST},
            {2, (1L << 32) - 1, -1}, {2, 1L << 32, 0}, {2, LEAST, LEAST}, {2, LEAST - 1L, GREATEST}, {2, Long.MIN_VALUE, 0},
            {2, Long.MAX_VALUE, -1}, {3, Long.MAX_VALUE, Long.MAX_VALUE}, {3, Long.MIN_VALUE, Long.MIN_VALUE}, {3, 1L << 32, 1L << 32},
            {3, -1, -1}, {4, 0, 0}, {4, 1, 1}, {4, 2, 1}, {4, -1, 1}, {4, 256, 1}, {4, 1L << 32, 1}, {4, Long.MIN_VALUE, 1},
            {4, Long.MAX_VALUE, 1}};
        for (long[] c : cases) {
            SwordAttic x = new SwordAttic();
            x.row(2, (int) c[0], 3);
            due("put", x.put(2, 1, c[1]), 1);
            due("sort " + c[0] + ", " + c[1], x.element(2, 1), c[2]);
            due("the one ahead", x.element(2, 0), 0);
            due("the one behind", x.element(2, 2), 0);
            due("put 0", x.put(2, 1, 0), 1);
            due("0", x.element(2, 1), 0);
        }
    }

    private static void refusals() {
        Edge.ofTerms("The host's REFUSALS: -11 nothing is there where something is wanted; -12 it is of another kind; "
            + "-13 a place that is not there; -14 a size below 0.");
        SwordAttic x = new SwordAttic();
        x.body(0);
        due("nothing is there", x.put(0, 0, 0), -11);
        due("nothing is there", x.taken(0, 0), -11);
        due("nothing is there", x.asleep(0), -11);
        due("a size below 0", x.row(0, 0, -1), -14);
        due("nothing is there still", x.put(0, 0, 0), -11);
        x.keep(0, 0);
        due("of another kind", x.put(0, 0, 0), -12);
        due("of another kind", x.taken(0, 1), -12);
        due("of another kind", x.asleep(0), -12);
        x.row(0, 0, 3);
        due("of another kind", x.taken(0, 0), -12);
        due("a place that is not there", x.put(0, 3, 0), -13);
        due("a place that is not there", x.put(0, -1, 0), -13);
        due("a place that is not there", x.shift(0, 1, 0, 0, 3), -13);
    }

    private static void orderOfAnswers() {
        Edge.ofTerms("Answers, of several the one named first: BAD (-1): no such number, or it is not as said; NOT (-2): as told; FULL (-3); "
            + "STATE (-5): as told; -11 to -14.", "VOID is -2000000000.");
        due("BAD", SwordAttic.BAD, -1);
        due("NOT", SwordAttic.NOT, -2);
        due("FULL", SwordAttic.FULL, -3);
        due("STATE", SwordAttic.STATE, -5);
        due("VOID", SwordAttic.VOID, -2000000000);
        SwordAttic x = SwordEdges.full();
        x.body(0);
        due("BAD ahead of FULL", x.sword(1, 0), BAD);
        due("BAD ahead of STATE", x.telling(0, 10), BAD);
        due("BAD ahead of -11", x.later(0, 25, 0), BAD);
        due("BAD ahead of -11", x.taken(0, 8), BAD);
        due("BAD ahead of -14", x.row(0, 5, -1), BAD);
        due("-11 ahead of -12", shiftOf(x, 0, 1), -11);
        due("-11 ahead of -12", shiftOf(x, 1, 0), -11);
        due("-12 ahead of -13", shiftOf(x, 1, 2), -12);
        due("-11 ahead of -13", x.put(0, -1, 0), -11);
        due("-12 ahead of -13", x.put(1, -1, 0), -12);
    }

    /** A shift of what is not there; on 0 is nothing, on 1 a blade, on 2 a row. */
    private static int shiftOf(SwordAttic x, int from, int to) {
        x.keep(0, -1);
        x.keep(1, 0);
        x.row(2, 0, 1);
        return x.shift(from, 5, to, 5, 5);
    }

    private static void keep() {
        Edge.of(35, "A SHELF holds nothing (body -1), or a BLADE: 1. BAD.");
        SwordAttic x = new SwordAttic();
        due("no body yet", x.keep(0, 0), BAD);
        due("nothing", x.keep(0, -1), 1);
        for (int i = 0; i < 50; i++) {
            x.body(i % 8);
        }
        for (int s : NO_SHELVES) {
            due("shelf " + s, x.keep(s, 0), BAD);
            due("shelf " + s, x.keep(s, -1), BAD);
        }
        int[] none = {-2, 50, LEAST, GREATEST};
        due("the last body", x.keep(0, 49), 1);
        for (int body : none) {
            due("body " + body, x.keep(0, body), BAD);
            due("the last body is still there", x.taken(0, 1), 1);
        }
        due("the first body, on all", x.keep(5, 0), 1);
        due("the first body", x.taken(5, 0), 0);
        due("the other shelf is as it was", x.taken(0, 1), 1);
        due("the body stays", x.keep(0, -1), 1);
        due("50", x.count(4), 50);
    }

    private static void row() {
        Edge.of(36, "A SHELF holds a ROW: 1. BAD (sort, n above 60); -14.");
        SwordAttic x = new SwordAttic();
        for (int s : NO_SHELVES) {
            due("shelf " + s, x.row(s, 0, 1), BAD);
            due("shelf " + s + ", ahead of -14", x.row(s, 0, -1), BAD);
        }
        int[] noSorts = {-1, 5, LEAST, GREATEST};
        for (int sort : noSorts) {
            due("sort " + sort, x.row(0, sort, 1), BAD);
            due("sort " + sort + ", ahead of -14", x.row(0, sort, -1), BAD);
        }
        due("n 61", x.row(0, 0, 61), BAD);
        due("the greatest n", x.row(0, 0, GREATEST), BAD);
        due("n -1", x.row(0, 0, -1), -14);
        due("the least n", x.row(0, 0, LEAST), -14);
        due("nothing yet", x.put(0, 0, 0), -11);
        due("n 0", x.row(0, 0, 0), 1);
        due("n 60", x.row(5, 4, 60), 1);
        x.put(5, 59, 1);
        due("n -1 on a row", x.row(5, 0, -1), -14);
        due("n 61 on a row", x.row(5, 0, 61), BAD);
        due("the row stays", x.element(5, 59), 1);
    }

    private static void put() {
        Edge.of(37, "Element i of a ROW becomes v: 1. BAD, -11, -12, -13.");
        SwordAttic x = new SwordAttic();
        x.body(0);
        x.row(1, 3, 4);
        x.keep(2, 0);
        int[] noPlaces = {-1, 4, 60, LEAST, GREATEST};
        for (int s : NO_SHELVES) {
            due("shelf " + s, x.put(s, 0, 1), BAD);
            due("shelf " + s, x.put(s, -1, 1), BAD);
        }
        for (int i : noPlaces) {
            due("place " + i, x.put(1, i, 9), -13);
            due("place " + i + " of nothing", x.put(0, i, 9), -11);
            due("place " + i + " of a blade", x.put(2, i, 9), -12);
        }
        for (int i = 0; i < 4; i++) {
            due("nothing became 9", x.element(1, i), 0);
            due("put", x.put(1, i, 10L + i), 1);
        }
        for (int i = 0; i < 4; i++) {
            due("each its own", x.element(1, i), 10 + i);
        }
    }

    private static void element() {
        Edge.of(38, "Element i of a ROW; Long.MIN_VALUE: BAD, -11 to -13.");
        SwordAttic x = new SwordAttic();
        x.body(0);
        x.row(1, 3, 4);
        x.keep(2, 0);
        x.put(1, 0, 5);
        x.put(1, 3, 6);
        for (int s : NO_SHELVES) {
            due("shelf " + s, x.element(s, 0), NONE);
        }
        int[] noPlaces = {-1, 4, 60, LEAST, GREATEST};
        for (int i : noPlaces) {
            due("place " + i, x.element(1, i), NONE);
        }
        due("nothing", x.element(0, 0), NONE);
        due("a blade", x.element(2, 0), NONE);
        due("the first", x.element(1, 0), 5);
        due("the last", x.element(1, 3), 6);
        x.put(1, 3, Long.MIN_VALUE);
        due("the least long itself", x.element(1, 3), Long.MIN_VALUE);
    }

    private static void shiftPlaces() {
        Edge.of(39, "n elements of a ROW from i on come to another one (or the same) from j on",
            "BAD, -11 (either), -12 (no ROWS, or of unlike sorts), -13.");
        SwordAttic x = new SwordAttic();
        x.row(0, 1, 4);
        x.row(1, 1, 6);
        int[][] right = {{0, 0, 4}, {0, 2, 4}, {3, 5, 1}, {4, 6, 0}, {0, 0, 0}, {4, 0, 0}, {0, 6, 0}};
        for (int[] r : right) {
            due(r[0] + " " + r[1] + " " + r[2], x.shift(0, r[0], 1, r[1], r[2]), r[2]);
        }
        int[][] wrong = {{-1, 0, 1}, {0, -1, 1}, {0, 0, -1}, {0, 0, 5}, {1, 0, 4}, {0, 3, 4}, {4, 0, 1}, {0, 6, 1}, {5, 0, 0}, {0, 7, 0},
            {-1, 0, 0}, {0, -1, 0}, {2, 0, -1}, {GREATEST, 0, 1}, {0, GREATEST, 1}, {1, 1, GREATEST}, {GREATEST, GREATEST, GREATEST},
            {LEAST, 0, 1}, {0, LEAST, 1}, {0, 0, LEAST}, {LEAST, LEAST, LEAST}, {GREATEST, 0, 0}};
        for (int i = 0; i < 4; i++) {
            x.put(0, i, 7);
        }
        for (int[] w : wrong) {
            due(w[0] + " " + w[1] + " " + w[2], x.shift(0, w[0], 1, w[1], w[2]), -13);
        }
        for (int i = 0; i < 6; i++) {
            due("nothing came", x.element(1, i), 0);
        }
        x.row(2, 3, 60);
        x.row(3, 3, 60);
        x.put(2, 59, Long.MIN_VALUE);
        due("all sixty", x.shift(2, 0, 3, 0, 60), 60);
        due("the last of them", x.element(3, 59), Long.MIN_VALUE);
        due("61", x.shift(2, 0, 3, 0, 61), -13);
        x.row(4, 4, 0);
        due("none of none", x.shift(4, 0, 4, 0, 0), 0);
        due("one of none", x.shift(4, 0, 4, 0, 1), -13);
    }

    private static void shiftAsBefore() {
        Edge.of(39, "as they all were before: n.");
        for (int i = 0; i < 5; i++) {
            for (int j = 0; j < 5; j++) {
                for (int n = 0; n <= 5 - Math.max(i, j); n++) {
                    SwordAttic x = new SwordAttic();
                    x.row(0, 0, 5);
                    for (int k = 0; k < 5; k++) {
                        x.put(0, k, 10 + k);
                    }
                    due("shift " + i + " " + j + " " + n, x.shift(0, i, 0, j, n), n);
                    for (int k = 0; k < 5; k++) {
                        boolean came = k >= j && k < j + n;
                        due("element " + k, x.element(0, k), 10 + (came ? k - j + i : k));
                    }
                }
            }
        }
    }

    private static void shiftRefused() {
        Edge.of(39, "-11 (either), -12 (no ROWS, or of unlike sorts)");
        SwordAttic x = new SwordAttic();
        x.body(0);
        x.keep(1, 0);
        for (int s : NO_SHELVES) {
            due("shelf " + s, x.shift(s, 0, 0, 0, 0), BAD);
            due("other " + s, x.shift(0, 0, s, 0, 0), BAD);
        }
        for (int sort = 0; sort < 5; sort++) {
            x.row(2, sort, 2);
            due("from nothing", x.shift(0, 0, 2, 0, 1), -11);
            due("to nothing", x.shift(2, 0, 0, 0, 1), -11);
            due("from a blade", x.shift(1, 0, 2, 0, 1), -12);
            due("to a blade", x.shift(2, 0, 1, 0, 1), -12);
            for (int other = 0; other < 5; other++) {
                x.row(3, other, 2);
                x.put(3, 0, 1);
                due(other + " to " + sort, x.shift(3, 0, 2, 1, 1), sort == other ? 1 : -12);
                due("it came", x.element(2, 1), sort == other ? 1 : 0);
                due(other + " to " + sort + ", none", x.shift(3, 0, 2, 1, 0), sort == other ? 0 : -12);
                x.put(2, 1, 0);
            }
        }
        due("nothing to a blade", x.shift(0, 0, 1, 0, 0), -11);
        due("a blade to nothing", x.shift(1, 0, 0, 0, 0), -11);
        due("nothing to itself", x.shift(0, 0, 0, 0, 0), -11);
        due("a blade to itself", x.shift(1, 0, 1, 0, 0), -12);
    }

    private static void count() {
        Edge.of(41, "How many: 0 SWORDS, 1 AWAKE now, 2 bytes on THE TAPE, 3 changes that may be UNDONE, 4 BODIES, "
            + "5 bodies that ran in the latest act(). BAD.");
        SwordAttic x = new SwordAttic();
        int[] none = {-1, 6, LEAST, GREATEST};
        for (int what : none) {
            due("what " + what, x.count(what), BAD);
        }
        for (int what = 0; what < 6; what++) {
            due("none of " + what, x.count(what), 0);
        }
        SwordAttic full = SwordEdges.full();
        due("ten", full.count(0), 10);
        due("ten awake", full.count(1), 10);
        full.mend(0, 6, 20);
        due("none awake", full.count(1), 0);
        due("one change", full.count(3), 1);
        full.undo();
        due("none that may be undone", full.count(3), 0);
        for (int i = 0; i < 50; i++) {
            full.body(7);
        }
        due("50 bodies", full.count(4), 50);
        for (int i = 0; i < 121; i++) {
            full.feed('1');
        }
        due("120 bytes", full.count(2), 120);
        full.act(0, 3, 1);
        due("14 ran", full.count(5), 14);
        full.act(0, 4, 1);
        due("none ran", full.count(5), 0);
        for (int what : none) {
            due("what " + what, full.count(what), BAD);
        }
    }
}

/** Edges of AN HOUR, A TELLING, A TOUCH and A ROUND, and of promises 9 to 12. */
final class HourEdges {
    private static final int BAD = SwordAttic.BAD, NOT = SwordAttic.NOT;

    private HourEdges() {
    }

    private static void due(String call, long got, long want) {
        Check.due(call, got, want);
    }

    static void test() {
        asItBegins();
        within();
        held();
        clock();
        tellingLess();
        tellingMore();
        touchAdds();
        touchGoesOn();
        touchOnce();
        touchFar();
        roundEnds();
        roundOf24();
        candleGoes();
        later();
        refused();
        awake();
        cries();
        asleep();
    }

    /** MIND of the one sword behind an hour in deed; the candle is elsewhere. */
    private static int behindHour(SwordAttic x, int mind) {
        x.mend(0, 3, mind);
        x.hour(11);
        return x.of(0, 3);
    }

    private static void asItBegins() {
        Edge.ofTerms("AN HOUR, all as they stand when it begins");
        SwordAttic x = Check.under("b=1?-1;5", 0, 1);
        Check.minds(x, 11, 11);
        due("both had one awake beside them", x.hour(11), 0);
        due("the first", x.of(0, 3), 10);
        due("the second", x.of(1, 3), 10);
        due("both had none", x.hour(11), 2);
        due("the first", x.of(0, 3), 15);
        due("the second", x.of(1, 3), 15);
        SwordAttic y = Check.under("t", 0);
        y.mend(0, 5, 11);
        due("HOUR 11 counts", behindHour(y, 0), 11);
        due("HOUR 0 counts then", behindHour(y, 0), 0);
        SwordAttic z = Check.under("m", 0);
        due("its own MIND", behindHour(z, 7), 14);
    }

    private static void within() {
        Edge.ofTerms("MIND of each SWORD is so much more (within 0 .. 99)");
        int[][] cases = {{1, 97, 98}, {1, 98, 99}, {1, 99, 99}, {20, 79, 99}, {20, 80, 99}, {20, 99, 99},
            {-1, 2, 1}, {-1, 1, 0}, {-1, 0, 0}, {-20, 21, 1}, {-20, 20, 0}, {-20, 19, 0}, {0, 0, 0}, {0, 99, 99}};
        for (int[] c : cases) {
            SwordAttic x = Check.under("" + c[0], 0);
            due(c[1] + " by " + c[0], behindHour(x, c[1]), c[2]);
            x.mend(0, 3, c[1]);
            Check.bytes(x, 0, 11);
            due(c[1] + " by " + c[0] + " in thought", x.later(0, 1, 0), c[2]);
            due("the best round too", x.bestRound(1, -2), c[2]);
        }
    }

    private static void held() {
        Edge.ofTerms("of one HELD it is 3 less besides.");
        // growth and the 3 less are one sum, held within 0 .. 99 once
        int[][] cases = {{0, 4, 1}, {0, 3, 0}, {0, 2, 0}, {0, 0, 0}, {3, 50, 50}, {3, 99, 99}, {4, 98, 99}, {2, 99, 98},
            {20, 81, 98}, {20, 82, 99}, {20, 99, 99}, {-20, 24, 1}, {-20, 23, 0}, {-20, 22, 0}, {1, 1, 0}, {2, 0, 0}};
        for (int[] c : cases) {
            SwordAttic x = Check.under("" + c[0], 0, 5);
            x.hold(0, 1);
            x.mend(1, 3, 50);
            due(c[1] + " by " + c[0], behindHour(x, c[1]), c[2]);
            due("not of the other", x.of(1, 3), 50 + c[0]);
            x.mend(0, 3, c[1]);
            x.mend(1, 3, 0);
            due("the best round too", x.bestRound(1, -2), c[2] + Math.max(0, c[0]));
        }
    }

    private static void clock() {
        Edge.ofTerms("HOUR is one more, behind 11: 0.");
        SwordAttic x = Check.under("t", 0);
        for (int h = 1; h <= 25; h++) {
            x.hour(11);
            due("HOUR behind " + h, x.of(0, 5), h % 12);
        }
        SwordAttic y = Check.under("t", 0);
        y.mend(0, 3, 0);
        y.row(0, 0, 24);
        due("0 to 11", y.later(0, 12, 0), 66);
        due("0 behind 11", y.later(0, 13, 0), 66);
        due("then 1", y.later(0, 14, 0), 67);
        due("in thought", y.of(0, 5), 0);
        y.mend(0, 5, 11);
        due("the best round too", y.bestRound(2, -2), 11);
    }

    private static void tellingLess() {
        Edge.ofTerms("A TELLING (of n, 0 .. 9) at a COT: MIND of the SWORD there is n times 2 less (0 at least), "
            + "if its DID is n or less");
        for (int n = 0; n <= 9; n++) {
            SwordAttic x = Check.attic(11, n, 10, 0);
            int[][] minds = {{99, 99 - 2 * n}, {2 * n + 1, 1}, {2 * n, 0}, {Math.max(0, 2 * n - 1), 0}, {0, 0}};
            for (int[] m : minds) {
                x.mend(0, 3, m[0]);
                due("of " + n + " to MIND " + m[0], x.telling(11, n), m[1]);
                due("MIND", x.of(0, 3), m[1]);
            }
            due("not to the other", x.of(1, 3), 20);
        }
    }

    private static void tellingMore() {
        Edge.ofTerms("else n more (99 at most)");
        for (int n = 0; n < 9; n++) {
            SwordAttic x = Check.attic(0, n + 1);
            int[][] minds = {{0, n}, {98 - n, 98}, {99 - n, 99}, {Math.min(99, 100 - n), 99}, {99, 99}};
            for (int[] m : minds) {
                x.mend(0, 3, m[0]);
                due("of " + n + " to MIND " + m[0], x.telling(0, n), m[1]);
                due("MIND", x.of(0, 3), m[1]);
            }
        }
    }

    private static void touchAdds() {
        Edge.ofTerms("A TOUCH at a COT: MIND of the SWORD there is 15 more (99 at most)");
        int[][] minds = {{0, 15}, {83, 98}, {84, 99}, {85, 99}, {99, 99}};
        for (int[] m : minds) {
            SwordAttic x = Check.attic(11, 0);
            x.mend(0, 3, m[0]);
            x.touch(11);
            due("MIND " + m[0], x.of(0, 3), m[1]);
        }
        SwordAttic x = Check.attic(0, 0, 1, 0);
        Check.minds(x, 0, 98);
        due("one is woken", x.touch(0), 1);
        due("of the one beside it 99 at most", x.of(1, 3), 99);
    }

    private static void touchGoesOn() {
        Edge.ofTerms("each BESIDE one that came to be AWAKE by it is touched, too");
        int[][] cases = {{10, 0, 15}, {10, 10, 15}, {10, 11, 0}, {10, 99, 0}, {15, 0, 0}, {15, 1, 15}, {15, 15, 15}, {15, 16, 0},
            {0, 0, 15}, {0, 1, 0}, {50, 35, 0}, {50, 36, 15}, {50, 50, 15}, {50, 51, 0}};
        for (int[] c : cases) {
            SwordAttic x = Check.attic(5, 0, 4, 0, 11, 0, 6, 0, 10, 0);
            x.mend(0, 6, c[0]);
            Check.minds(x, c[1], 80, 80, 80, 80);
            String name = "SLEEPS " + c[0] + ", MIND " + c[1];
            due(name, x.touch(5), c[2] == 0 ? 0 : 1);
            due(name + ": left", x.of(1, 3), 80 + c[2]);
            due(name + ": across", x.of(2, 3), 80 + c[2]);
            due(name + ": 6 is not beside 5", x.of(3, 3), 80);
            due(name + ": 10 is not beside 5", x.of(4, 3), 80);
        }
    }

    private static void touchOnce() {
        Edge.ofTerms("once each, and so on.");
        SwordAttic x = Check.attic(0, 0, 1, 0, 6, 0, 7, 0);
        Check.minds(x, 0, 0, 0, 0);
        due("four", x.woken(7, 1), 4);
        due("all four", x.touch(7), 4);
        for (int s = 0; s < 4; s++) {
            due("15 each", x.of(s, 3), 15);
        }
        SwordAttic y = Check.attic(0, 0, 1, 0, 6, 0);
        Check.minds(y, 0, 0, 0);
        y.mend(0, 6, 14);
        due("all three", y.touch(0), 3);
        due("it is not touched back", y.of(0, 3), 15);
    }

    private static void touchFar() {
        Edge.ofTerms("and so on.");
        int[] chain = {0, 1, 2, 3, 4, 5, 11, 10, 9, 8};
        SwordAttic x = new SwordAttic();
        for (int i = 0; i < 10; i++) {
            due("sword", x.sword(chain[i], 0), i);
        }
        Check.minds(x, 0, 0, 0, 0, 0, 0, 0, 0, 0, 0);
        due("all ten", x.woken(0, 0), 1023);
        due("all ten", x.touch(0), 10);
        due("all ten", x.count(1), 10);
        SwordAttic y = Check.attic(0, 0, 1, 0, 2, 0, 4, 0);
        Check.minds(y, 0, 11, 0, 0);
        due("it ends at one awake", y.touch(0), 1);
        due("that is touched", y.of(1, 3), 26);
        due("the next is not", y.of(2, 3), 0);
        Check.minds(y, 0, 0, 0, 0);
        due("it ends at an empty cot", y.touch(0), 3);
        due("4 is not touched", y.of(3, 3), 0);
    }

    private static void roundEnds() {
        Edge.ofTerms("A ROUND: a ROW of bytes on a SHELF: COTS, where the CANDLE is, hour by hour (24 at most; it ends with what is none)");
        int[] none = {12, 13, -1, 127, -128, 268, 255};
        for (int v : none) {
            SwordAttic x = Check.under("1", 0);
            Check.bytes(x, 0, 0, 11, v, 0);
            due("ends with " + v, x.later(0, 24, 0), 22);
            due("3 hours are 2", x.later(0, 3, 0), 22);
            due("no cry behind it", x.cries(0, 0, 23), NOT);
            Check.bytes(x, 0, v, 0, 0);
            due("ends at once with " + v, x.later(0, 24, 0), 20);
        }
        SwordAttic x = Check.under("1", 0);
        Check.bytes(x, 0, 256, 267, -256);
        due("what keeps a COT's bits is one", x.later(0, 24, 0), 23);
        x.row(0, 0, 0);
        due("no hours at all", x.later(0, 24, 0), 20);
    }

    private static void roundOf24() {
        Edge.ofTerms("(24 at most; it ends with what is none)");
        int[] sizes = {23, 24, 25, 60};
        for (int size : sizes) {
            int hours = Math.min(24, size);
            SwordAttic x = Check.under("1", 0);
            x.row(0, 0, size);
            due("hours of " + size, x.later(0, 24, 0), 20 + hours);
            due("the last cry of " + size, x.cries(0, 0, 20 + hours), hours);
            due("none behind it", x.cries(0, 0, 21 + hours), NOT);
        }
    }

    private static void candleGoes() {
        Edge.ofTerms("the CANDLE goes there, then the hour passes.");
        SwordAttic x = Check.under("c", 3);
        x.mend(0, 7, 3);
        Check.bytes(x, 0, 4, 3, 9, 3);
        int[] minds = {20, 20, 21, 21, 22};
        for (int n = 0; n <= 4; n++) {
            due("behind " + n, x.later(0, n, 0), minds[n]);
        }
        due("in thought", x.of(0, 7), 3);
        x.hour(4);
        due("in deed, elsewhere", x.of(0, 3), 20);
        x.hour(3);
        due("in deed, there", x.of(0, 3), 21);
    }

    private static void later() {
        Edge.ofTerms("IN THOUGHT, by a ROUND, behind its first n (0 .. 24) hours: MIND of a SWORD");
        SwordAttic x = SwordEdges.full();
        Check.law(x, "1");
        Check.bytes(x, 5, 0, 0, 0, 0, 0);
        int[] none = {-1, 25, Integer.MIN_VALUE, Integer.MAX_VALUE};
        for (int n : none) {
            due("n " + n, x.later(5, n, 0), BAD);
            due("n " + n, x.awake(5, n, 0), BAD);
        }
        due("behind 0", x.later(5, 0, 9), 20);
        due("behind 4", x.later(5, 4, 9), 24);
        due("behind 5", x.later(5, 5, 9), 25);
        due("it has no sixth", x.later(5, 6, 9), 25);
        due("nor a 24th", x.later(5, 24, 0), 25);
        Edge.of(9, "MIND.");
        int[] noSwords = {-1, 10, Integer.MIN_VALUE, Integer.MAX_VALUE};
        for (int s : noSwords) {
            due("sword " + s, x.later(5, 0, s), BAD);
        }
        due("the last sword", x.later(5, 24, 9), 25);
    }

    private static void refused() {
        Edge.ofTerms("---- hours in thought (a ROUND on a SHELF: BAD, -11, -12 (no ROW of bytes); n 0 .. 24).");
        SwordAttic x = Check.attic(0, 0);
        x.body(0);
        int[] noShelves = {-1, 6, Integer.MIN_VALUE, Integer.MAX_VALUE};
        for (int s : noShelves) {
            refusedBy(x, s, BAD);
        }
        for (int s = 0; s < 6; s++) {
            refusedBy(x, s, -11);
            x.keep(s, 0);
            refusedBy(x, s, -12);
            for (int sort = 1; sort < 5; sort++) {
                x.row(s, sort, 3);
                refusedBy(x, s, -12);
            }
            badFirst(x, s);
            x.row(s, 0, 0);
            due("a row of none is one", x.later(s, 24, 0), 20);
            x.keep(s, -1);
            badFirst(x, s);
        }
    }

    private static void refusedBy(SwordAttic x, int shelf, int want) {
        due("later", x.later(shelf, 0, 0), want);
        due("awake", x.awake(shelf, 0, 0), want);
        due("cries", x.cries(shelf, 0, 0), want);
        due("asleep", x.asleep(shelf), want);
    }

    private static void badFirst(SwordAttic x, int shelf) {
        due("BAD first", x.later(shelf, 25, 0), BAD);
        due("BAD first", x.later(shelf, 0, 1), BAD);
        due("BAD first", x.awake(shelf, 25, 0), BAD);
        due("BAD first", x.awake(shelf, 0, 2), BAD);
        due("BAD first", x.cries(shelf, 1, 0), BAD);
        due("BAD first", x.cries(shelf, 0, 100), BAD);
    }

    private static void awake() {
        Edge.ofTerms("which are AWAKE (bits); MIND of all.");
        SwordAttic x = new SwordAttic();
        x.row(0, 0, 24);
        due("nobody", x.awake(0, 24, 0), 0);
        due("nobody's", x.awake(0, 24, 1), 0);
        SwordAttic full = SwordEdges.full();
        Check.law(full, "20");
        full.row(0, 0, 24);
        due("all ten", full.awake(0, 0, 0), 1023);
        due("of all ten", full.awake(0, 0, 1), 200);
        due("990 at most", full.awake(0, 24, 1), 990);
        Check.law(full, "-20");
        due("none", full.awake(0, 1, 0), 0);
        due("0 at least", full.awake(0, 24, 1), 0);
        Check.law(full, "0");
        full.mend(9, 3, 10);
        due("all but the last", full.awake(0, 24, 0), 511);
        full.mend(0, 3, 10);
        due("nor the first", full.awake(0, 24, 0), 510);
        Edge.of(10, "Which are AWAKE (what 0: bits), MIND of all (1).");
        int[] none = {-1, 2, Integer.MIN_VALUE, Integer.MAX_VALUE};
        for (int what : none) {
            due("what " + what, full.awake(0, 0, what), BAD);
        }
    }

    private static void cries() {
        Edge.ofTerms("CRIES: behind how many of its hours a SWORD's MIND is first x (0 .. 99) or more; NOT.");
        SwordAttic x = Check.under("t<4?20;-20", 0);
        x.row(0, 0, 24);
        Check.minds(x, 19);
        // 19, 39, 59, 79, 99, 79 .. 0 .. and up again behind the twelfth
        int[][] cases = {{0, 0}, {19, 0}, {20, 1}, {39, 1}, {40, 2}, {79, 3}, {80, 4}, {99, 4}};
        for (int[] c : cases) {
            due("x " + c[0], x.cries(0, 0, c[0]), c[1]);
        }
        Check.bytes(x, 0, 0, 0, 0);
        due("in no hour", x.cries(0, 0, 80), NOT);
        due("in the last", x.cries(0, 0, 79), 3);
        x.row(0, 0, 0);
        due("without hours", x.cries(0, 0, 19), 0);
        due("without hours", x.cries(0, 0, 20), NOT);
        Edge.of(11, "CRIES. NOT.");
        int[] noX = {-1, 100, Integer.MIN_VALUE, Integer.MAX_VALUE};
        for (int v : noX) {
            due("x " + v, x.cries(0, 0, v), BAD);
        }
        int[] noSwords = {-1, 1, Integer.MIN_VALUE, Integer.MAX_VALUE};
        for (int s : noSwords) {
            due("sword " + s, x.cries(0, s, 0), BAD);
        }
        due("x 99, never", x.cries(0, 0, 99), NOT);
    }

    private static void asleep() {
        Edge.ofTerms("ALL ASLEEP: behind how many nobody is first AWAKE; NOT.");
        SwordAttic x = new SwordAttic();
        x.row(0, 0, 0);
        due("nobody is there", x.asleep(0), 0);
        SwordAttic y = Check.under("-1", 0, 5);
        y.row(0, 0, 24);
        int[][] cases = {{0, 0, 0}, {10, 10, 0}, {11, 0, 1}, {0, 11, 1}, {34, 11, 24}, {11, 34, 24}, {35, 0, NOT}, {0, 35, NOT}};
        for (int[] c : cases) {
            Check.minds(y, c[0], c[1]);
            due("minds " + c[0] + ", " + c[1], y.asleep(0), c[2]);
        }
        y.row(0, 0, 60);
        due("not behind the 25th", y.asleep(0), NOT);
        Edge.of(12, "ALL ASLEEP. NOT.");
        int[] none = {-1, 6, Integer.MIN_VALUE, Integer.MAX_VALUE};
        for (int shelf : none) {
            due("shelf " + shelf, y.asleep(shelf), BAD);
        }
        Check.law(y, "t=0?-20;20");
        Check.minds(y, 11, 11);
        due("first, though not for long", y.asleep(0), 1);
        y.row(0, 0, 0);
        due("without hours", y.asleep(0), NOT);
    }
}

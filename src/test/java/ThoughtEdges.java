/** Edges of BEST ROUND, TOLD, WOKEN and WALK, promises 13 to 16. */
final class ThoughtEdges {
    private static final int BAD = SwordAttic.BAD, NOT = SwordAttic.NOT, STATE = SwordAttic.STATE;
    private static final int[] EXTREMES = {Integer.MIN_VALUE, Integer.MAX_VALUE};

    private ThoughtEdges() {
    }

    private static void due(String call, long got, long want) {
        Check.due(call, got, want);
    }

    static void test() {
        bestRoundBounds();
        bestRoundOfNone();
        bestRoundFewest();
        bestRoundLikeOnes();
        told();
        toldOfMany();
        toldNever();
        woken();
        wokenBounds();
        walk();
        walkBounds();
        roundOfAll();
        roundOfSeven();
    }

    private static void bestRoundBounds() {
        Edge.of(13, "BEST ROUND: how many are AWAKE (k -1), MIND of all (-2), the k-th COT (0 .. n less 1). BAD.");
        SwordAttic x = Check.under("0-c", 5, 8);
        for (int n = 0; n <= 3; n++) {
            due("k -3 of " + n, x.bestRound(n, -3), BAD);
            due("k -2 of " + n, x.bestRound(n, -2), 40 - n);
            due("k -1 of " + n, x.bestRound(n, -1), 2);
            for (int k = 0; k < n; k++) {
                due("k " + k + " of " + n, x.bestRound(n, k), 5);
            }
            due("k " + n + " of " + n, x.bestRound(n, n), BAD);
            for (int k : EXTREMES) {
                due("k " + k + " of " + n, x.bestRound(n, k), BAD);
            }
        }
        int[] none = {-1, 4, Integer.MIN_VALUE, Integer.MAX_VALUE};
        for (int n : none) {
            for (int k = -3; k <= 3; k++) {
                due("n " + n + ", k " + k, x.bestRound(n, k), BAD);
            }
        }
    }

    private static void bestRoundOfNone() {
        Edge.ofTerms("BEST ROUND: for n (0 .. 3) hours");
        SwordAttic x = new SwordAttic();
        for (int n = 0; n <= 3; n++) {
            due("nobody is awake", x.bestRound(n, -1), 0);
            due("nobody has a mind", x.bestRound(n, -2), 0);
            for (int k = 0; k < n; k++) {
                due("the least cot", x.bestRound(n, k), 0);
            }
        }
        SwordAttic y = Check.under("20", 3);
        y.mend(0, 7, 9);
        due("0 hours: as it is now", y.bestRound(0, -2), 20);
        due("0 hours: as it is now", y.bestRound(0, -1), 1);
        due("3 hours", y.bestRound(3, -2), 80);
        due("the candle's place now is nothing to it", y.bestRound(3, 0), 0);
    }

    private static void bestRoundFewest() {
        Edge.ofTerms("the COTS by which fewest are AWAKE behind them, then MIND of all is least");
        // by the candle sword 0 loses 2 and falls asleep, sword 1 loses 20 and does not
        SwordAttic x = Check.under("c?y-60;0", 2, 8);
        x.mend(0, 2, 58);
        x.mend(1, 2, 40);
        Check.minds(x, 12, 99);
        due("fewest", x.bestRound(1, -1), 1);
        due("MIND of all", x.bestRound(1, -2), 109);
        due("which", x.bestRound(1, 0), 2);
        x.mend(0, 3, 13);
        due("of as many awake the least MIND", x.bestRound(1, -1), 2);
        due("MIND of all", x.bestRound(1, -2), 92);
        due("which", x.bestRound(1, 0), 8);
        due("three hours", x.bestRound(3, -1), 1);
        due("two of them for sword 0", x.bestRound(3, -2), 9 + 79);
    }

    private static void bestRoundLikeOnes() {
        Edge.ofTerms("the k-th COT (of like ones the least, hour by hour)");
        // the candle helps in the second hour alone
        SwordAttic x = Check.under("t=1?0-c;0", 11, 4, 0);
        due("wasted: the least", x.bestRound(3, 0), 0);
        due("of three like ones the least", x.bestRound(3, 1), 0);
        due("wasted: the least", x.bestRound(3, 2), 0);
        x.mend(2, 3, 0);
        due("of two like ones the least", x.bestRound(3, 1), 4);
        x.mend(1, 3, 0);
        due("the one", x.bestRound(3, 1), 11);
        due("the least ahead of it", x.bestRound(3, 0), 0);
        // where the candle harms, a cot without a sword is best
        SwordAttic y = Check.under("c", 0, 1, 2, 3, 4, 5, 6, 7, 8, 9);
        for (int k = 0; k < 3; k++) {
            due("the least without a sword", y.bestRound(3, k), 10);
        }
        due("no harm", y.bestRound(3, -2), 200);
        y.mend(0, 0, 10);
        due("0 is free now", y.bestRound(1, 0), 0);
        // of (4, 11) and (11, 4) the one that begins with the least
        SwordAttic z = Check.under("0-c*10", 11, 4);
        due("both asleep", z.bestRound(2, -1), 0);
        due("4 first", z.bestRound(2, 0), 4);
        due("then 11", z.bestRound(2, 1), 11);
    }

    private static void told() {
        Edge.of(14, "TOLD: how many (what 0), MIND of all (1). BAD; NOT.");
        SwordAttic x = new SwordAttic();
        int[] none = {-1, 2, Integer.MIN_VALUE, Integer.MAX_VALUE};
        for (int what : none) {
            due("what " + what, x.told(what), BAD);
        }
        due("nobody is there", x.told(0), 0);
        due("nobody is there", x.told(1), 0);
        x.sword(0, 0);
        x.mend(0, 3, 99);
        due("can't be", x.told(0), NOT);
        due("can't be", x.told(1), NOT);
        for (int what : none) {
            due("BAD ahead of NOT: " + what, x.told(what), BAD);
        }
    }

    private static void toldOfMany() {
        Edge.ofTerms("TOLD: the fewest TELLINGS (of any n 0 .. 9, one to a COT) by which nobody is AWAKE now: how many; "
            + "MIND of all then at the least, by so many (whoever they are told to)");
        SwordAttic x = SwordEdges.full();
        due("all ten", x.told(0), 10);
        due("all ten lose 18", x.told(1), 20);
        for (int s = 0; s < 10; s++) {
            x.mend(s, 3, 10);
            due("fewer", x.told(0), 9 - s);
            due("asleep they are not told", x.told(1), 10 * (s + 1) + 2 * (9 - s));
        }
        x.mend(9, 3, 11);
        due("one", x.told(0), 1);
        due("0 at least", x.told(1), 90);
        due("in thought", x.of(9, 3), 11);
    }

    private static void toldNever() {
        Edge.ofTerms("NOT: it can't be.");
        int[] sleeps = {0, 10, 50};
        for (int s : sleeps) {
            for (int did = 0; did <= 9; did += 9) {
                SwordAttic x = Check.attic(0, did, 1, 0);
                x.mend(0, 6, s);
                Check.minds(x, s, s);
                due("nobody", x.told(0), 0);
                due("nobody", x.told(1), 2 * s);
                Check.minds(x, s + 1, s);
                due("one above", x.told(0), 1);
                Check.minds(x, s + 18, s);
                due("18 above", x.told(0), 1);
                due("18 above", x.told(1), 2 * s);
                Check.minds(x, s + 19, s);
                due("19 above", x.told(0), NOT);
                due("19 above", x.told(1), NOT);
                Check.minds(x, s + 1, s + 19);
                due("one of two can't", x.told(0), NOT);
            }
        }
    }

    private static void woken() {
        Edge.ofTerms("WOKEN: whom (bits) a TOUCH at a COT would wake (that is not AWAKE now, and is then); "
            + "how many are touched by it in all.");
        SwordAttic x = Check.attic(5, 0, 11, 0, 10, 0);
        int[][] cases = {{0, 0, 0, 7, 3}, {10, 10, 10, 7, 3}, {11, 0, 0, 0, 1}, {0, 11, 0, 1, 2}, {0, 0, 11, 3, 3}, {0, 99, 0, 1, 2}};
        for (int[] c : cases) {
            Check.minds(x, c[0], c[1], c[2]);
            due("woken", x.woken(5, 0), c[3]);
            due("touched", x.woken(5, 1), c[4]);
        }
        Check.minds(x, 0, 0, 0);
        x.mend(0, 6, 15);
        due("15 is not above 15", x.woken(5, 0), 0);
        due("one is touched", x.woken(5, 1), 1);
        x.mend(0, 6, 14);
        due("15 is above 14", x.woken(5, 0), 7);
        due("in thought", x.of(0, 3), 0);
        due("no deed", x.led(2), 0);
        due("an empty cot", x.woken(4, 0), 0);
        due("an empty cot", x.woken(4, 1), 0);
    }

    private static void wokenBounds() {
        Edge.of(15, "WOKEN (what 0: bits), how many are touched (1) by a TOUCH at a COT. BAD.");
        SwordAttic x = Check.attic(0, 0, 11, 0);
        Check.minds(x, 0, 0);
        due("cot 0", x.woken(0, 0), 1);
        due("cot 11", x.woken(11, 0), 2);
        int[] noCots = {-1, 12, Integer.MIN_VALUE, Integer.MAX_VALUE};
        for (int cot : noCots) {
            due("cot " + cot, x.woken(cot, 0), BAD);
            due("cot " + cot, x.woken(cot, 1), BAD);
        }
        int[] none = {-1, 2, Integer.MIN_VALUE, Integer.MAX_VALUE};
        for (int what : none) {
            due("what " + what, x.woken(0, what), BAD);
            due("what " + what + " of an empty cot", x.woken(1, what), BAD);
        }
        SwordAttic full = SwordEdges.full();
        for (int s = 0; s < 10; s++) {
            full.mend(s, 3, 0);
        }
        due("all ten", full.woken(10, 0), 1023);
        due("all ten", full.woken(10, 1), 10);
    }

    private static void walk() {
        Edge.ofTerms("WALK: the least steps from the CANDLE's COT (BESIDE, one a step) to the nearest COT of one AWAKE (0: there); "
            + "NOT: nobody is; which (of like ones the least COT).");
        for (int from = 0; from < 12; from++) {
            for (int to = 0; to < 12; to++) {
                SwordAttic x = Check.attic(to, 0);
                x.mend(0, 7, from);
                int steps = Math.abs(from % 6 - to % 6) + (from / 6 == to / 6 ? 0 : 1);
                due("from " + from + " to " + to, x.walk(0), steps);
                due("which", x.walk(1), to);
                due("of all", x.walk(2), steps);
                x.mend(0, 3, 10);
                due("nobody is awake", x.walk(0), NOT);
                due("nobody is awake", x.walk(1), NOT);
                due("nobody is awake", x.walk(2), 0);
            }
        }
        SwordAttic y = Check.attic(8, 0, 3, 0, 1, 0, 2, 0);
        Check.minds(y, 11, 11, 11, 10);
        y.mend(0, 7, 2);
        due("three are as near", y.walk(0), 1);
        due("the least of them", y.walk(1), 1);
        y.mend(2, 3, 10);
        due("the least of two", y.walk(1), 3);
        y.mend(1, 3, 10);
        due("the last", y.walk(1), 8);
        y.mend(3, 3, 11);
        due("there", y.walk(0), 0);
        due("there", y.walk(1), 2);
    }

    private static void walkBounds() {
        Edge.of(16, "WALK: how many (what 0), which COT (1), ROUND OF ALL (2). BAD; NOT (0, 1); STATE (2).");
        SwordAttic x = new SwordAttic();
        int[] none = {-1, 3, Integer.MIN_VALUE, Integer.MAX_VALUE};
        for (int what : none) {
            due("what " + what, x.walk(what), BAD);
        }
        due("nobody is there", x.walk(0), NOT);
        due("nobody is there", x.walk(1), NOT);
        due("nobody is there", x.walk(2), 0);
        SwordAttic full = SwordEdges.full();
        due("ten", full.walk(2), STATE);
        due("1 is by 0", full.walk(0), 1);
        due("1 is by 0", full.walk(1), 1);
        for (int what : none) {
            due("BAD ahead of STATE: " + what, full.walk(what), BAD);
        }
    }

    private static void roundOfAll() {
        Edge.ofTerms("ROUND OF ALL: the least steps from the CANDLE's COT by all COTS of those AWAKE");
        int[][] cases = {{0, 5, 11, 6}, {2, 0, 5, 7}, {8, 2, 8, 1}, {5, 0, 6, 6}, {5, 6, 0, 6}, {3, 3, 3, 0}, {6, 11, 0, 7}};
        for (int[] c : cases) {
            SwordAttic x = c[1] == c[2] ? Check.attic(c[1], 0) : Check.attic(c[1], 0, c[2], 0);
            x.mend(0, 7, c[0]);
            due("from " + c[0] + " by " + c[1] + " and " + c[2], x.walk(2), c[3]);
        }
        SwordAttic y = Check.attic(0, 0, 5, 0, 6, 0, 11, 0);
        y.mend(0, 7, 2);
        due("the corners, not back", y.walk(2), 9);
        y.mend(1, 3, 0);
        y.mend(3, 3, 0);
        due("0 and 6 alone", y.walk(2), 3);
    }

    private static void roundOfSeven() {
        Edge.ofTerms("(6 at most, else STATE), not back.");
        SwordAttic x = Check.attic(0, 0, 1, 0, 2, 0, 3, 0, 4, 0, 5, 0, 11, 0, 6, 0);
        Check.minds(x, 20, 20, 20, 20, 20, 20, 20, 20);
        due("eight", x.walk(2), STATE);
        x.mend(7, 3, 10);
        due("seven", x.walk(2), STATE);
        due("the way still is told", x.walk(0), 0);
        x.mend(6, 3, 10);
        due("six in a row, from its end", x.walk(2), 5);
        x.mend(0, 7, 7);
        due("six in a row, from beside 1", x.walk(2), 7);
    }
}

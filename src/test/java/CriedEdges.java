/** Edges of what was cried, and of dealing: promises 17 to 22. */
final class CriedEdges {
    private static final int BAD = SwordAttic.BAD, NOT = SwordAttic.NOT;

    private CriedEdges() {
    }

    private static void due(String call, long got, long want) {
        Check.due(call, got, want);
    }

    static void test() {
        judged();
        judgedByItsCots();
        judgedBeyond();
        shelvesOfBoth();
        refusalsOfBoth();
        dids();
        ago();
        fitsBounds();
        dealtAsItIs();
        dealtFewest();
        dealtWhich();
        dealtBounds();
        pairs();
        apart();
        linesBounds();
        herTurn();
        hisTurn();
        turnsInAll();
        turnsBounds();
        drawnTouches();
        drawnCandles();
        drawnNights();
        drawnBounds();
    }

    private static void judged() {
        Edge.ofTerms("CRIED: a ROW of bytes: MIND of a SWORD behind 0, 1, 2 .. hours by a ROUND in another ROW: "
            + "JUDGED: the first that is not so");
        SwordAttic x = Check.under("20", 0, 5);
        Check.minds(x, 0, 79);
        Check.bytes(x, 0, 1, 1, 1, 1, 1);
        Check.bytes(x, 1, 0, 20, 40, 60, 80, 99);
        due("all is so, from 0 to 99", x.judge(1, 0), NOT);
        due("not of the other", x.judge(1, 1), 0);
        for (int i = 0; i < 6; i++) {
            long was = x.element(1, i);
            x.put(1, i, was + 1);
            due("one more at " + i, x.judge(1, 0), i);
            x.put(1, i, was - 1);
            due("one less at " + i, x.judge(1, 0), i);
            x.put(1, i, was + 128);
            due("another sign at " + i, x.judge(1, 0), i);
            x.put(1, i, was + 256);
            due("the same byte at " + i, x.judge(1, 0), NOT);
        }
        x.put(1, 5, 0);
        x.put(1, 2, 0);
        due("the first of two", x.judge(1, 0), 2);
        Check.bytes(x, 1, 0, 20);
        due("fewer than its hours", x.judge(1, 0), NOT);
        x.row(1, 0, 0);
        due("nothing was cried", x.judge(1, 0), NOT);
    }

    private static void judgedBeyond() {
        Edge.ofTerms("(more than its hours and one, too); NOT.");
        int[] hours = {0, 1, 2, 23, 24, 25, 60};
        for (int h : hours) {
            int most = Math.min(24, h) + 1;
            SwordAttic x = Check.under("0", 0);
            x.mend(0, 3, 0);
            x.row(0, 0, h);
            x.row(1, 0, most);
            due("its hours and one: " + most, x.judge(1, 0), NOT);
            x.row(1, 0, most + 1);
            due("one more", x.judge(1, 0), most);
            x.row(1, 0, 60);
            due("many more", x.judge(1, 0), most);
            x.put(1, 0, 1);
            due("the first comes first", x.judge(1, 0), 0);
        }
        SwordAttic y = Check.under("0", 0);
        y.mend(0, 3, 0);
        Check.bytes(y, 0, 3, 12, 3);
        y.row(1, 0, 3);
        due("the round ends with what is none", y.judge(1, 0), 2);
    }

    private static void shelvesOfBoth() {
        Edge.of(17, "JUDGED (ss: 10 times the SHELF of the ROUND, and that of CRIED");
        SwordAttic x = Check.attic(0, 0);
        for (int s = 0; s < 6; s++) {
            x.row(s, 0, 0);
        }
        for (int ss = -70; ss <= 130; ss++) {
            boolean isPair = ss >= 0 && ss / 10 <= 5 && ss % 10 <= 5;
            due("judge(" + ss + ")", x.judge(ss, 0), isPair ? NOT : BAD);
            due("fits(" + ss + ")", x.fits(ss, 0, 0), isPair ? 10 : BAD);
        }
        int[] none = {Integer.MIN_VALUE, Integer.MAX_VALUE, -2147483640, 2147483640};
        for (int ss : none) {
            due("judge(" + ss + ")", x.judge(ss, 0), BAD);
            due("fits(" + ss + ")", x.fits(ss, 0, 0), BAD);
        }
        int[] noSwords = {-1, 1, 10, Integer.MIN_VALUE, Integer.MAX_VALUE};
        for (int s : noSwords) {
            due("sword " + s, x.judge(0, s), BAD);
        }
        eachItsShelf();
    }

    /** Rows of all sizes: of two that are told the other way round, or by a neighbour, one would fit that must not. */
    private static void eachItsShelf() {
        int[][] sizes = {{0, 1, 2, 3, 4, 5}, {5, 4, 3, 2, 1, 0}};
        for (int[] size : sizes) {
            SwordAttic x = Check.under("0", 0);
            x.mend(0, 3, 0);
            for (int s = 0; s < 6; s++) {
                x.row(s, 0, size[s]);
            }
            for (int ss = 0; ss < 60; ss++) {
                if (ss % 10 < 6) {
                    int most = size[ss / 10] + 1;
                    boolean isSo = size[ss % 10] <= most;
                    due("judge " + ss, x.judge(ss, 0), isSo ? NOT : most);
                    due("fits " + ss, x.fits(ss, 0, 0), isSo ? 10 : 0);
                }
            }
        }
    }

    private static void judgedByItsCots() {
        Edge.ofTerms("behind 0, 1, 2 .. hours by a ROUND in another ROW");
        SwordAttic x = Check.under("c", 3, 9);
        x.mend(0, 7, 3);
        Check.bytes(x, 0, 3, 9, 9, 3, 4, 3);
        Check.bytes(x, 1, 20, 21, 21, 21, 22, 22, 23);
        Check.bytes(x, 2, 20, 20, 21, 22, 22, 22, 22);
        due("the candle at 3 in the first, fourth and sixth", x.judge(1, 0), NOT);
        due("the candle at 9 in the second and third", x.judge(2, 1), NOT);
        due("not the other's", x.judge(1, 1), 1);
        due("not the other's", x.judge(2, 0), 1);
        due("by any DID", x.fits(2, 11, 0), 10);
        due("by no DID", x.fits(2, 0, 0), 0);
    }

    private static void refusalsOfBoth() {
        Edge.of(17, "BAD, -11, -12; the ROUND first). NOT.");
        SwordAttic x = Check.attic(0, 0);
        x.body(0);
        x.row(0, 0, 1);
        x.row(1, 2, 1);
        x.keep(2, 0);
        // on 3 is nothing; for each pair the ROUND's refusal, or else that of CRIED
        int[] own = {0, -12, -12, -11};
        for (int round = 0; round < 4; round++) {
            for (int cried = 0; cried < 4; cried++) {
                int want = own[round] != 0 ? own[round] : own[cried];
                int ss = 10 * round + cried;
                due("judge " + ss, x.judge(ss, 0), want);
                due("fits " + ss, x.fits(ss, 0, 1), ss == 0 ? NOT : want);
                due("BAD first", x.judge(ss, 1), BAD);
                due("BAD first", x.fits(ss, 1, 0), BAD);
                due("BAD first", x.fits(ss, 10, 0), BAD);
                due("BAD first", x.fits(ss, 0, 4), BAD);
            }
        }
    }

    private static void dids() {
        Edge.ofTerms("DIDS: by how many DIDS (0 .. 9) of a told one all is so; the least (NOT).");
        SwordAttic x = Check.attic(0, 4, 1, 4);
        Check.law(x, "d");
        Check.bytes(x, 0, 11);
        fit(x, 0, 10, 0, 20);
        fit(x, 0, 1, 0, 20, 20);
        fit(x, 0, 1, 4, 20, 24);
        fit(x, 0, 1, 9, 20, 29);
        fit(x, 0, 0, NOT, 20, 30);
        fit(x, 0, 0, NOT, 20, 19);
        fit(x, 0, 0, NOT, 19);
        fit(x, 0, 0, NOT, 20, 24, 28);
        fit(x, 0, 10, 0);
        Check.law(x, "d>7");
        fit(x, 0, 2, 8, 20, 21);
        fit(x, 0, 8, 0, 20, 20);
        due("the other's are nothing to it", x.fits(1, 1, 0), 10);
        due("nor the other way", x.fits(1, 10, 0), 10);
        Check.bytes(x, 1, 20, 21);
        due("by no DID of the other", x.fits(1, 1, 0), 0);
        due("by no DID of the other", x.fits(1, 1, 1), NOT);
        due("in thought", x.of(0, 1), 4);
    }

    private static void ago() {
        Edge.ofTerms("AGO: by how many YEARS (0 .. 99) of it; the least (NOT).");
        SwordAttic x = Check.attic(0, 4);
        Check.bytes(x, 0, 11);
        Check.law(x, "y=99");
        fit(x, 2, 1, 99, 20, 21);
        fit(x, 2, 99, 0, 20, 20);
        fit(x, 2, 0, NOT, 20, 22);
        fit(x, 2, 100, 0, 20);
        Check.law(x, "y=0");
        fit(x, 2, 1, 0, 20, 21);
        fit(x, 2, 99, 1, 20, 20);
        Check.law(x, "y>97");
        fit(x, 2, 2, 98, 20, 21);
        fit(x, 2, 0, NOT, 20, 21, 22);
        due("in thought", x.of(0, 2), 50);
    }

    /** How many and the least for sword 0 as both, by what was cried on shelf 1. */
    private static void fit(SwordAttic x, int what, int howMany, int least, int... cried) {
        Check.bytes(x, 1, cried);
        due("how many", x.fits(1, 0, what), howMany);
        due("the least", x.fits(1, 0, what + 1), least);
    }

    private static void fitsBounds() {
        Edge.of(18, "Of what one cried (ab: 10 times that one, and the one told)",
            "DIDS: how many (what 0), the least (1; NOT), AGO: how many (2), the least (3; NOT). BAD, -11, -12.");
        SwordAttic x = Check.attic(0, 0, 5, 0, 10, 0);
        x.row(0, 0, 0);
        x.row(1, 0, 0);
        for (int ab = -30; ab <= 130; ab++) {
            boolean isPair = ab >= 0 && ab / 10 < 3 && ab % 10 < 3;
            due("ab " + ab, x.fits(1, ab, 0), isPair ? 10 : BAD);
            due("ab " + ab, x.fits(1, ab, 2), isPair ? 100 : BAD);
        }
        int[] none = {-1, 4, Integer.MIN_VALUE, Integer.MAX_VALUE};
        for (int v : none) {
            due("what " + v, x.fits(1, 0, v), BAD);
        }
        due("the least ab", x.fits(1, Integer.MIN_VALUE, 0), BAD);
        due("the greatest ab", x.fits(1, Integer.MAX_VALUE, 0), BAD);
        SwordAttic full = SwordEdges.full();
        full.row(0, 0, 0);
        Check.bytes(full, 1, 20);
        due("the last of ten", full.fits(1, 99, 2), 100);
        due("100", full.fits(1, 100, 2), BAD);
    }

    private static void dealtAsItIs() {
        Edge.ofTerms("-9: none, if that is as good");
        SwordAttic x = new SwordAttic();
        due("nobody is there", x.dealt(0), 0);
        due("nobody is there", x.dealt(1), -9);
        SwordAttic one = Check.attic(7, 9);
        due("one", one.dealt(0), 1);
        due("one", one.dealt(1), -9);
        SwordAttic apart = Check.attic(0, 0, 11, 0);
        due("two apart", apart.dealt(1), -9);
        SwordAttic asleep = Check.attic(0, 0, 1, 0);
        Check.minds(asleep, 0, 0);
        due("two asleep", asleep.dealt(1), -9);
        SwordAttic alike = Check.under("7", 0, 1, 2);
        due("by this law all are as good", alike.dealt(1), -9);
    }

    private static void dealtFewest() {
        Edge.ofTerms("DEALT: two COTS may be changed (what lies in them, or does not): which two leave fewest AWAKE behind one hour "
            + "(no CANDLE anywhere), then MIND of all least: how many");
        SwordAttic x = Check.attic(0, 0, 1, 0);
        // beside one another each loses 1, apart 4
        Check.minds(x, 14, 14);
        due("apart both fall asleep", x.dealt(0), 0);
        due("0 goes to 3", x.dealt(1), 3);
        Check.minds(x, 15, 14);
        due("one stays awake", x.dealt(0), 1);
        due("0 goes to 3", x.dealt(1), 3);
        Check.minds(x, 11, 11);
        due("asleep either way, but with less MIND", x.dealt(1), 3);
        SwordAttic c = Check.under("c?-20;0", 0);
        due("no candle, be it at its cot", c.dealt(0), 1);
        due("no candle at any cot", c.dealt(1), -9);
        // more MIND in all is no matter, if fewer are awake: near sword 1, sword 0 loses, which sword 1 does not
        SwordAttic y = Check.attic(0, 0, 2, 1);
        Check.law(y, "b?d*21-1;0");
        Check.minds(y, 11, 20);
        due("fewest", y.dealt(0), 1);
        due("beside one another: 10 and 40, not 11 and 20", y.dealt(1), 1);
        due("in thought", y.of(0, 0), 0);
    }

    private static void dealtWhich() {
        Edge.ofTerms("which (12 times the lesser and the greater;", "of like ones the least)");
        SwordAttic x = Check.attic(1, 0, 7, 0);
        due("(0, 1)", x.dealt(1), 1);
        SwordAttic y = Check.attic(10, 0, 11, 0);
        due("(0, 10)", y.dealt(1), 10);
        SwordAttic z = Check.attic(0, 0, 4, 0, 9, 0, 10, 0, 8, 0);
        z.mend(2, 3, 0);
        // 10 must leave 4 and 9, and only 11 is by nobody that is awake
        due("(10, 11), the last of all", z.dealt(1), 131);
        SwordAttic two = Check.attic(2, 1, 3, 0);
        Check.law(two, "b*d");
        two.mend(1, 1, 1);
        due("2 to 0, ahead of 3 to 0", two.dealt(1), 2);
    }

    private static void dealtBounds() {
        Edge.of(19, "DEALT: how many (what 0), which (1). BAD.");
        SwordAttic full = SwordEdges.full();
        int[] none = {-1, 2, Integer.MIN_VALUE, Integer.MAX_VALUE};
        for (int what : none) {
            due("what " + what, full.dealt(what), BAD);
        }
        due("ten", full.dealt(0), 10);
        full.mend(0, 6, 50);
        due("all asleep", full.dealt(0), 0);
    }

    private static void pairs() {
        Edge.ofTerms("LINES: how many pairs of SWORDS BESIDE one another have a DID together of x (0 .. 18) or more");
        SwordAttic x = Check.attic(4, 9, 5, 9, 11, 0, 10, 0, 6, 9, 0, 1);
        // 4-5: 18, 5-11: 9, 11-10: 0, 10-4: 9, 6-0: 10; 5-6 and 11-0 lie apart
        int[][] cases = {{0, 5}, {1, 4}, {9, 4}, {10, 2}, {11, 1}, {17, 1}, {18, 1}};
        for (int[] c : cases) {
            due("x " + c[0], x.lines(c[0]), c[1]);
        }
        x.mend(0, 1, 8);
        due("17 is not 18", x.lines(18), 0);
        due("17", x.lines(17), 1);
        due("asleep or not", Check.attic(0, 0, 6, 0).lines(0), 1);
        SwordAttic none = new SwordAttic();
        due("nobody", none.lines(0), 0);
        due("one", Check.attic(3, 9).lines(0), 0);
        // 1 to 5 and 6 to 10: four in each row, and four across
        due("ten", SwordEdges.full().lines(0), 4 + 4 + 4);
    }

    private static void apart() {
        Edge.ofTerms("the most SWORDS no two of which lie BESIDE one another: how many; which (bits of COTS; of like ones the least).");
        apart(0, 0);
        apart(1, 1 << 11, 11);
        apart(1, 1, 0, 6);
        apart(1, 1 << 4, 4, 5);
        apart(2, 1 << 5 | 1 << 6, 6, 5);
        apart(2, 1 << 1 | 1 << 6, 0, 1, 6, 7);
        apart(2, 1 << 1 | 1 << 6, 1, 6, 7);
        apart(3, 1 | 1 << 2 | 1 << 4, 0, 1, 2, 3, 4, 5);
        // the two ways to lay six: 1, 3, 5, 6, 8, 10 and 0, 2, 4, 7, 9, 11
        apart(6, 1386, 0, 1, 2, 3, 5, 6, 7, 8, 10, 9);
        apart(6, 2709, 0, 1, 2, 4, 6, 7, 8, 9, 10, 11);
    }

    private static void apart(int howMany, int which, int... cots) {
        SwordAttic x = new SwordAttic();
        for (int i = 0; i < cots.length; i++) {
            due("sword", x.sword(cots[i], 0), i);
        }
        due("how many of " + cots.length, x.lines(-1), howMany);
        due("which of " + cots.length, x.lines(-2), which);
    }

    private static void linesBounds() {
        Edge.of(20, "LINES: pairs (x 0 .. 18); x -1: how many lie apart, x -2: which COTS. BAD.");
        SwordAttic x = Check.attic(0, 9, 1, 9);
        int[] none = {-3, 19, Integer.MIN_VALUE, Integer.MAX_VALUE};
        for (int v : none) {
            due("x " + v, x.lines(v), BAD);
        }
        due("x -2", x.lines(-2), 1);
        due("x -1", x.lines(-1), 1);
        due("x 0", x.lines(0), 1);
        due("x 18", x.lines(18), 1);
    }

    private static void turns(SwordAttic x, int n, int howMany, int first) {
        due("how many behind " + n, x.byTurns(n, 0), howMany);
        due("her first of " + n, x.byTurns(n, 1), first);
    }

    private static void herTurn() {
        Edge.ofTerms("she tells 4 at a COT of 0 .. 5 (or nothing: 12)", "her first COT (of like ones 12 first, then the least).");
        SwordAttic x = Check.attic(4, 4, 2, 4);
        Check.minds(x, 18, 18);
        turns(x, 1, 1, 2);
        Check.minds(x, 18, 19);
        turns(x, 1, 1, 4);
        Check.minds(x, 19, 19);
        turns(x, 1, 2, 12);
        Check.minds(x, 10, 10);
        turns(x, 1, 0, 12);
        x.mend(0, 1, 5);
        x.mend(1, 1, 5);
        Check.minds(x, 18, 10);
        turns(x, 1, 1, 12);
        for (int cot = 0; cot < 12; cot++) {
            SwordAttic y = Check.attic(cot, 0);
            y.mend(0, 3, 18);
            turns(y, 1, cot < 6 ? 0 : 1, cot < 6 ? cot : 12);
        }
        turns(new SwordAttic(), 1, 0, 12);
    }

    private static void hisTurn() {
        Edge.ofTerms("he touches one of 6 .. 11 (or nothing): behind them she wants fewest AWAKE, he most: that, if both do their best");
        for (int cot = 0; cot < 12; cot++) {
            SwordAttic y = Check.attic(cot, 0);
            y.mend(0, 3, 0);
            turns(y, 2, cot < 6 ? 0 : 1, 12);
        }
        // from 11 he wakes 5 again, whatever she does
        SwordAttic x = Check.attic(5, 0, 11, 0);
        Check.minds(x, 12, 0);
        turns(x, 2, 2, 12);
        // from 6 he does not come to 5
        SwordAttic z = Check.attic(5, 0, 6, 0);
        Check.minds(z, 12, 0);
        turns(z, 2, 1, 5);
        // the touch of 11 passes on to 5, 4, 3; that of 7 to nobody
        SwordAttic far = Check.attic(5, 0, 4, 0, 3, 0, 11, 0, 7, 0);
        Check.minds(far, 0, 0, 0, 0, 0);
        turns(far, 2, 4, 12);
        turns(new SwordAttic(), 2, 0, 12);
    }

    private static void turnsInAll() {
        Edge.ofTerms("BY TURNS: aunt and sergeant, n (1 .. 4) times in all, the aunt first");
        // she needs two tellings, the first and the third
        SwordAttic x = Check.attic(5, 0);
        x.mend(0, 3, 26);
        turns(x, 1, 1, 12);
        turns(x, 2, 1, 12);
        turns(x, 3, 0, 5);
        turns(x, 4, 0, 5);
        x.mend(0, 3, 27);
        turns(x, 3, 1, 12);
        x.mend(0, 3, 18);
        turns(x, 3, 0, 12);
        turns(x, 4, 0, 12);
        // he needs two touches, the second and the fourth
        SwordAttic y = Check.attic(6, 0);
        y.mend(0, 6, 29);
        y.mend(0, 3, 0);
        turns(y, 1, 0, 12);
        turns(y, 2, 0, 12);
        turns(y, 3, 0, 12);
        turns(y, 4, 1, 12);
        y.mend(0, 6, 30);
        turns(y, 4, 0, 12);
        due("in thought", y.of(0, 3), 0);
        due("no deed", y.led(1) + y.led(2), 0);
    }

    private static void turnsBounds() {
        Edge.of(21, "BY TURNS: how many (what 0), her first COT (1). BAD.");
        SwordAttic x = Check.attic(5, 0);
        int[] noTimes = {0, 5, -1, Integer.MIN_VALUE, Integer.MAX_VALUE};
        for (int n : noTimes) {
            due("n " + n, x.byTurns(n, 0), BAD);
            due("n " + n, x.byTurns(n, 1), BAD);
        }
        int[] none = {-1, 2, Integer.MIN_VALUE, Integer.MAX_VALUE};
        for (int what : none) {
            due("what " + what, x.byTurns(1, what), BAD);
            due("what " + what, x.byTurns(4, what), BAD);
        }
        // both her tellings are for the one of DID 0 in COT 1; all he could touch are awake, so none passes on
        turns(SwordEdges.full(), 4, 9, 1);
    }

    private static void drawnTouches() {
        Edge.ofTerms("COT (z >>> 16) % 12 is touched, if (z >>> 20) % 12 is below TOUCHES (0 .. 12, told); then the hour passes");
        for (int touches = 0; touches <= 12; touches++) {
            for (int cot = 0; cot < 12; cot += 11) {
                SwordAttic x = Check.under("0", cot);
                x.mend(0, 3, 0);
                int[] want = touchedNights(8100 + touches, 7, 24, touches, cot);
                int nmt = 70000 + 2400 + touches;
                due("MIND with " + touches, x.drawn(8100 + touches, nmt, 0), want[0]);
                due("awake with " + touches, x.drawn(8100 + touches, nmt, -1), want[1]);
            }
        }
        // z is 12345 at first: COT 0 is touched, ahead of the hour
        SwordAttic y = Check.under("m=35?5;0", 0);
        due("touched, then the hour", y.drawn(0, 10101, 0), 40);
        due("not touched", y.drawn(0, 10100, 0), 20);
    }

    /** MIND at the ends, and how often awake, of one sword without growth; in longs, so that nothing wraps unseen. */
    private static int[] touchedNights(int seed, int nights, int hours, int touches, int cot) {
        long z = seed & 0xFFFFFFFFL;
        int[] sums = new int[2];
        for (int n = 0; n < nights; n++) {
            int mind = 0;
            for (int h = 0; h < hours; h++) {
                z = (z * 1103515245L + 12345L) & 0xFFFFFFFFL;
                boolean isTouched = (z >> 20) % 12 < touches && (z >> 16) % 12 == cot;
                mind = isTouched ? Math.min(99, mind + 15) : mind;
            }
            sums[0] += mind;
            sums[1] += mind > 10 ? 1 : 0;
        }
        return sums;
    }

    private static void drawnCandles() {
        Edge.ofTerms("by a SEED: z = z * 1103515245 + 12345 (an int; SEED at first) ahead of each hour: the CANDLE goes to COT (z >>> 8) % 12");
        int[] seeds = {0, 1, -1, Integer.MAX_VALUE, Integer.MIN_VALUE, 12345, -1103515245};
        for (int seed : seeds) {
            for (int cot = 0; cot < 12; cot++) {
                SwordAttic x = Check.under("c", cot);
                due("seed " + seed + ", cot " + cot, x.drawn(seed, 32400, 0), 3 * 20 + candles(seed, 72, cot));
            }
        }
    }

    private static int candles(int seed, int hours, int cot) {
        long z = seed & 0xFFFFFFFFL;
        int n = 0;
        for (int h = 0; h < hours; h++) {
            z = (z * 1103515245L + 12345L) & 0xFFFFFFFFL;
            n += (z >> 8) % 12 == cot ? 1 : 0;
        }
        return n;
    }

    private static void drawnNights() {
        Edge.ofTerms("DRAWN: n nights (1 .. 30) of m hours (1 .. 24) from now",
            "how many are AWAKE at the ends, all together; MIND of a told one.");
        SwordAttic x = Check.under("t", 0, 5);
        Check.minds(x, 0, 11);
        x.mend(0, 5, 10);
        due("one night of an hour", x.drawn(5, 10100, 0), 10);
        due("from now each night", x.drawn(5, 300100, 0), 300);
        due("10, 11, 0, 1", x.drawn(5, 20400, 0), 2 * 22);
        due("24 hours are twice 66", x.drawn(5, 12400, 0), 99);
        due("30 nights of 24 hours", x.drawn(5, 302400, 0), 30 * 99);
        due("of the other", x.drawn(5, 300100, 1), 30 * 21);
        due("awake at the ends: one", x.drawn(5, 300100, -1), 30);
        due("awake at the ends: both", x.drawn(5, 300200, -1), 60);
        due("the hour is as it was", x.of(0, 5), 10);
        due("the candle is as it was", x.of(0, 7), 0);
        due("no deed", x.led(0) + x.led(2), 0);
        due("nobody is there", new SwordAttic().drawn(5, 302412, -1), 0);
        SwordAttic full = SwordEdges.full();
        Check.law(full, "20");
        due("ten awake, 30 nights", full.drawn(5, 302412, -1), 300);
        full.hold(9, 1);
        Check.law(full, "0");
        due("one HELD", full.drawn(5, 300600, 9), 60);
    }

    private static void drawnBounds() {
        Edge.of(22, "DRAWN (nmt: 10000 n, 100 m, and TOUCHES): how many AWAKE (sword -1), MIND of one. BAD.");
        SwordAttic x = Check.under("0", 3);
        int[] right = {10100, 10112, 12400, 12412, 300100, 300112, 302400, 302412};
        for (int nmt : right) {
            due("nmt " + nmt, x.drawn(0, nmt, -1), nmt / 10000);
        }
        int[] none = {0, 1, 12, 13, 99, 100, 112, 2412, 9999, 10000, 10012, 12500, 12512, 19900, 10113, 10199, 12413, 310100, 312400,
            300000, 302500, 302413, 990100, -1, -100, -10100, -302412, Integer.MIN_VALUE, Integer.MAX_VALUE};
        for (int nmt : none) {
            due("nmt " + nmt, x.drawn(0, nmt, -1), BAD);
            due("nmt " + nmt, x.drawn(0, nmt, 0), BAD);
        }
        int[] noSwords = {-2, 1, 10, Integer.MIN_VALUE, Integer.MAX_VALUE};
        for (int s : noSwords) {
            due("sword " + s, x.drawn(0, 10100, s), BAD);
        }
        due("without a sword", new SwordAttic().drawn(0, 10100, 0), BAD);
    }
}

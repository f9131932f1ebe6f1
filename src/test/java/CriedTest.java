/** Promises 17 to 22: what was cried, dealing. */
public final class CriedTest {
    private static void due(String call, long got, long want) {
        Check.due(call, got, want);
    }

    public static void main(String[] args) {
        refusals();
        judge();
        fits();
        dealt();
        lines();
        byTurns();
        drawn();
        Check.end("CriedTest");
    }

    private static void refusals() {
        SwordAttic x = Check.attic(0, 0);
        x.body(0);
        Check.bytes(x, 0, 1);
        x.row(1, 1, 3);
        x.keep(2, 0);
        // the ROUND is looked at first, then CRIED; shelf 3 holds nothing
        int[] ss = {30, 3, 33, 10, 1, 13, 31, 20, 2, 23, 0};
        int[] want = {-11, -11, -11, -12, -12, -12, -11, -12, -12, -12, 0};
        for (int i = 0; i < ss.length; i++) {
            due("17: judge(" + ss[i] + ")", x.judge(ss[i], 0), want[i]);
            due("18: fits(" + ss[i] + ")", x.fits(ss[i], 0, 0), want[i]);
            due("17: BAD first", x.judge(ss[i], 1), SwordAttic.BAD);
            due("18: BAD first", x.fits(ss[i], 0, 4), SwordAttic.BAD);
        }
        int[] bad = {-1, -10, 6, 16, 60, 100, Integer.MAX_VALUE, Integer.MIN_VALUE};
        for (int b : bad) {
            due("17: judge(" + b + ")", x.judge(b, 0), SwordAttic.BAD);
            due("18: fits(" + b + ")", x.fits(b, 0, 0), SwordAttic.BAD);
        }
        int[] badAb = {-1, 1, 10, 11, 100, Integer.MAX_VALUE, Integer.MIN_VALUE};
        for (int ab : badAb) {
            due("18: ab " + ab, x.fits(0, ab, 0), SwordAttic.BAD);
        }
        due("17: sword -1", x.judge(0, -1), SwordAttic.BAD);
        due("18: what -1", x.fits(0, 0, -1), SwordAttic.BAD);
    }

    private static void judge() {
        SwordAttic x = Check.attic(0, 0);
        Check.law(x, "c=0");
        Check.bytes(x, 0, 1, 0, 1, 12, 1);
        Check.bytes(x, 1, 20, 21, 21, 22);
        due("17: all so", x.judge(1, 0), SwordAttic.NOT);
        Check.bytes(x, 1, 20, 21, 21, 22, 23);
        due("17: too many", x.judge(1, 0), 4);
        Check.bytes(x, 1, 20, 21, 22, 22);
        due("17: third", x.judge(1, 0), 2);
        Check.bytes(x, 1, 19);
        due("17: first", x.judge(1, 0), 0);
        Check.bytes(x, 1);
        due("17: nothing cried", x.judge(1, 0), SwordAttic.NOT);
        Check.bytes(x, 2);
        Check.bytes(x, 1, 20, 20);
        due("17: no hours", x.judge(21, 0), 1);
        Check.bytes(x, 1, 20 - 256);
        due("17: lowest bits", x.judge(21, 0), SwordAttic.NOT);
        Check.bytes(x, 1, -20);
        due("17: a sign", x.judge(21, 0), 0);
        Check.law(x, "0");
        Check.bytes(x, 3, new int[30]);
        int[] same = new int[30];
        java.util.Arrays.fill(same, 20);
        Check.bytes(x, 4, same);
        due("17: 24 hours at most", x.judge(34, 0), 25);
        Check.law(x, "c=0");
        Check.bytes(x, 1, 0, 6, 5);
        due("17: one row for both", x.judge(11, 0), 0);
        x.mend(0, 3, 0);
        due("17: one row for both", x.judge(11, 0), 1);
    }

    private static void fits() {
        SwordAttic x = Check.attic(0, 4, 1, 6);
        Check.bytes(x, 0, 11, 11);
        x.mend(0, 2, 45);
        // sword 0 grows by 4 + 3 - 2 - 2
        Check.bytes(x, 1, 20, 23, 26);
        due("18: dids", x.fits(1, 0, 0), 1);
        due("18: the least did", x.fits(1, 0, 1), 4);
        due("18: ago", x.fits(1, 0, 2), 20);
        due("18: the least ago", x.fits(1, 0, 3), 40);
        // the other one's did matters not to sword 0, as long as it stays awake
        due("18: of the other", x.fits(1, 1, 0), 10);
        due("18: of the other", x.fits(1, 1, 1), 0);
        due("18: of the other", x.fits(1, 1, 2), 100);
        due("18: of the other", x.fits(1, 1, 3), 0);
        x.mend(1, 3, 11);
        // with MIND 11 it sleeps behind an hour if d + 3 - 2 - 2 is below 0
        due("18: of the other", x.fits(1, 1, 0), 9);
        due("18: of the other", x.fits(1, 1, 1), 1);
        Check.bytes(x, 1, 20, 24);
        due("18: ago 20 .. 39", x.fits(1, 0, 3), 20);
        Check.bytes(x, 1, 20, 99);
        due("18: none", x.fits(1, 0, 0), 0);
        due("18: none", x.fits(1, 0, 1), SwordAttic.NOT);
        due("18: none", x.fits(1, 0, 2), 0);
        due("18: none", x.fits(1, 0, 3), SwordAttic.NOT);
        Check.bytes(x, 1);
        due("18: any", x.fits(1, 0, 0), 10);
        due("18: any", x.fits(1, 0, 2), 100);
        Check.bytes(x, 1, 20, 23, 26, 29);
        due("18: too many", x.fits(1, 0, 2), 0);
        due("18: in thought", x.of(0, 1), 4);
        due("18: in thought", x.of(0, 2), 45);
    }

    private static void dealt() {
        SwordAttic x = Check.attic(0, 0, 1, 0);
        due("19: BAD", x.dealt(2), SwordAttic.BAD);
        due("19: BAD", x.dealt(-1), SwordAttic.BAD);
        x.mend(0, 3, 11);
        x.mend(1, 3, 11);
        // beside one another both grow by -1, apart by -4: MIND 10 and 10, or 7 and 7
        due("19: how many", x.dealt(0), 0);
        due("19: which", x.dealt(1), 3);
        x.mend(1, 0, 2);
        due("19: as it is", x.dealt(1), -9);
        x.mend(0, 6, 0);
        due("19: awake", x.dealt(0), 2);
        SwordAttic y = Check.attic(11, 0, 10, 0);
        Check.law(y, "c?-20;b");
        y.mend(0, 7, 11);
        due("19: no candle", y.dealt(0), 2);
        due("19: the least pair", y.dealt(1), 10);
        SwordAttic z = Check.attic(6, 0, 7, 0, 1, 0);
        // 7 lies by 6 and by 1
        due("19: three", z.dealt(0), 3);
        due("19: which", z.dealt(1), bestOfThree());
    }

    /** Of 6, 7 and 1 the pair that is least and leaves nobody beside another one. */
    private static int bestOfThree() {
        int[] cots = {6, 7, 1};
        for (int a = 0; a < 12; a++) {
            for (int b = a + 1; b < 12; b++) {
                int[] c = cots.clone();
                for (int i = 0; i < 3; i++) {
                    c[i] = c[i] == a ? b : c[i] == b ? a : c[i];
                }
                if (!beside(c[0], c[1]) && !beside(c[0], c[2]) && !beside(c[1], c[2])) {
                    return 12 * a + b;
                }
            }
        }
        return -9;
    }

    private static boolean beside(int a, int b) {
        return Math.abs(a / 6 - b / 6) + Math.abs(a % 6 - b % 6) == 1;
    }

    private static void lines() {
        SwordAttic x = Check.attic(5, 9, 6, 9, 4, 8, 11, 0, 0, 9, 10, 1);
        due("20: BAD", x.lines(-3), SwordAttic.BAD);
        due("20: BAD", x.lines(19), SwordAttic.BAD);
        // 5-4: 17, 5-11: 9, 4-10: 9, 11-10: 1, 6-0: 18; 5 and 6 are not beside one another
        due("20: all", x.lines(0), 5);
        due("20: 1", x.lines(1), 5);
        due("20: 2", x.lines(2), 4);
        due("20: 9", x.lines(9), 4);
        due("20: 10", x.lines(10), 2);
        due("20: 18", x.lines(18), 1);
        due("20: apart", x.lines(-1), 3);
        // 0 or 6, with 5 and 10 or 4 and 11: the least bits
        due("20: which", x.lines(-2), 1 + (1 << 5) + (1 << 10));
    }

    private static void byTurns() {
        SwordAttic x = Check.attic(0, 4, 1, 5, 6, 0, 7, 9);
        due("21: BAD", x.byTurns(0, 0), SwordAttic.BAD);
        due("21: BAD", x.byTurns(5, 0), SwordAttic.BAD);
        due("21: BAD", x.byTurns(1, 2), SwordAttic.BAD);
        due("21: BAD", x.byTurns(1, -1), SwordAttic.BAD);
        due("21: nothing helps", x.byTurns(1, 0), 4);
        due("21: nothing", x.byTurns(1, 1), 12);
        x.mend(0, 3, 18);
        due("21: she tells 0", x.byTurns(1, 0), 3);
        due("21: she tells 0", x.byTurns(1, 1), 0);
        x.mend(1, 3, 10);
        due("21: telling 1 wakes it", x.byTurns(1, 0), 2);
        x.mend(2, 3, 0);
        x.mend(3, 3, 0);
        // he wakes 6, and 0, 7 by it, and so on
        due("21: his turn", x.byTurns(2, 0), 4);
        x.mend(1, 1, 4);
        due("21: she may not hinder it", x.byTurns(2, 0), 4);
        due("21: of like ones nothing", x.byTurns(2, 1), 12);
        due("21: in thought", x.of(0, 3), 18);
    }

    private static void drawn() {
        SwordAttic x = Check.attic(0, 0, 6, 0);
        int[] bad = {0, 100, 10000, 12500, 10113, 310100, -1, -10100, Integer.MAX_VALUE, Integer.MIN_VALUE, 110100 * 100};
        for (int nmt : bad) {
            due("22: nmt " + nmt, x.drawn(0, nmt, -1), SwordAttic.BAD);
        }
        due("22: sword", x.drawn(0, 10100, 2), SwordAttic.BAD);
        due("22: sword", x.drawn(0, 10100, -2), SwordAttic.BAD);
        Check.law(x, "c*4");
        // z is 12345 at first: the candle at 48 % 12, that is 0; no touch by TOUCHES 0
        due("22: the candle", x.drawn(0, 10100, 0), 24);
        due("22: two awake", x.drawn(0, 10100, -1), 2);
        // (z >>> 16) % 12 is 0 and (z >>> 20) % 12 is 0, so COT 0 is touched
        due("22: a touch", x.drawn(0, 10101, 0), 39);
        Check.law(x, "t");
        due("22: hours", x.drawn(0, 30500, 0), 3 * (20 + 1 + 2 + 3 + 4));
        due("22: nights", x.drawn(77, 302400, -1), 60);
        due("22: in thought", x.of(0, 3), 20);
        due("22: in thought", x.of(0, 5), 0);
        due("22: no deed", x.led(2), 0);
    }
}

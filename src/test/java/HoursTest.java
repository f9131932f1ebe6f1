/** Promises 9 to 16: hours in thought. */
public final class HoursTest {
    private static void due(String call, long got, long want) {
        Check.due(call, got, want);
    }

    public static void main(String[] args) {
        refusals();
        rounds();
        heldAndClock();
        cries();
        asleep();
        bestRound();
        told();
        woken();
        walk();
        Check.end("HoursTest");
    }

    private static void refusals() {
        SwordAttic x = Check.attic(0, 0);
        due("9: -11", x.later(0, 0, 0), -11);
        due("10: -11", x.awake(0, 0, 0), -11);
        due("11: -11", x.cries(0, 0, 0), -11);
        due("12: -11", x.asleep(0), -11);
        x.row(0, 4, 3);
        x.body(0);
        x.keep(1, 0);
        for (int shelf = 0; shelf < 2; shelf++) {
            due("9: -12", x.later(shelf, 0, 0), -12);
            due("10: -12", x.awake(shelf, 0, 0), -12);
            due("11: -12", x.cries(shelf, 0, 0), -12);
            due("12: -12", x.asleep(shelf), -12);
        }
        int[] shelves = {-1, 6, 0};
        for (int s : shelves) {
            int n = s == 0 ? 25 : 0;
            due("9: BAD", x.later(s, n, 0), SwordAttic.BAD);
            due("10: BAD", x.awake(s, n, 0), SwordAttic.BAD);
            due("11: BAD", x.cries(s, 0, s == 0 ? 100 : 0), SwordAttic.BAD);
        }
        due("12: BAD", x.asleep(6), SwordAttic.BAD);
        due("12: BAD", x.asleep(-1), SwordAttic.BAD);
        due("9: n", x.later(0, -1, 0), SwordAttic.BAD);
        due("9: sword", x.later(0, 0, 1), SwordAttic.BAD);
        due("9: sword", x.later(0, 0, -1), SwordAttic.BAD);
        due("10: n", x.awake(0, -1, 0), SwordAttic.BAD);
        due("10: what", x.awake(0, 0, 2), SwordAttic.BAD);
        due("10: what", x.awake(0, 0, -1), SwordAttic.BAD);
        due("11: x", x.cries(0, 0, -1), SwordAttic.BAD);
        due("11: sword", x.cries(0, 1, 0), SwordAttic.BAD);
    }

    private static void rounds() {
        SwordAttic x = Check.attic(0, 0, 5, 0);
        Check.law(x, "c");
        int[] cots = new int[30];
        Check.bytes(x, 0, cots);
        due("9: 24 hours", x.later(0, 24, 0), 44);
        due("9: not the candle's", x.later(0, 24, 1), 20);
        due("10: of all", x.awake(0, 24, 1), 64);
        due("11: 24 hours", x.cries(0, 0, 44), 24);
        due("11: 24 at most", x.cries(0, 0, 45), SwordAttic.NOT);
        x.mend(0, 3, 99);
        x.mend(1, 3, 0);
        Check.law(x, "t*0-2");
        x.mend(0, 6, 50);
        due("12: the 25th does not come", x.asleep(0), SwordAttic.NOT);
        x.mend(0, 3, 98);
        due("12: the 24th does", x.asleep(0), 24);
        x.mend(0, 3, 20);
        x.mend(1, 3, 20);
        x.mend(0, 6, 10);
        Check.law(x, "c");
        Check.bytes(x, 0, 0, 0, 12, 0);
        due("9: ends with 12", x.later(0, 24, 0), 22);
        Check.bytes(x, 0, 5, -1, 0);
        due("9: ends with -1", x.later(0, 24, 1), 21);
        due("9: in thought", x.of(1, 3), 20);
        due("9: the candle stays", x.of(0, 7), 0);
        x.mend(1, 3, 10);
        due("10: bits", x.awake(0, 0, 0), 1);
        due("10: bits behind one", x.awake(0, 1, 0), 3);
    }

    private static void heldAndClock() {
        SwordAttic x = Check.attic(0, 0, 5, 0);
        Check.law(x, "t");
        x.mend(0, 5, 10);
        Check.bytes(x, 0, 3, 3, 3, 3);
        x.mend(0, 3, 0);
        due("9: t 10", x.later(0, 1, 0), 10);
        due("9: t 11", x.later(0, 2, 0), 21);
        due("9: t 0", x.later(0, 3, 0), 21);
        due("9: t 1", x.later(0, 4, 0), 22);
        x.mend(0, 4, 1);
        due("9: held", x.later(0, 2, 0), 15);
        due("9: held, 0 at least", x.later(0, 3, 0), 12);
        x.mend(0, 3, 98);
        due("9: held, 99 at most", x.later(0, 1, 0), 99);
        x.mend(0, 5, 0);
        x.mend(0, 3, 2);
        due("9: 0 at least", x.later(0, 1, 0), 0);
        SwordAttic y = Check.attic(0, 0, 1, 0);
        Check.law(y, "b*9-m/9");
        y.mend(0, 3, 3);
        Check.bytes(y, 0, 11, 11);
        // both by what stands as the hour begins: 0 sleeps, so 1 has nobody beside it
        due("9: first", y.later(0, 1, 0), 12);
        due("9: second", y.later(0, 1, 1), 18);
    }

    private static void cries() {
        SwordAttic x = Check.attic(0, 0);
        Check.law(x, "t<2?5;-9");
        Check.bytes(x, 0, 1, 1, 1, 1);
        due("11: 0", x.cries(0, 0, 20), 0);
        due("11: 1", x.cries(0, 0, 21), 1);
        due("11: 1", x.cries(0, 0, 25), 1);
        due("11: 2", x.cries(0, 0, 26), 2);
        due("11: never", x.cries(0, 0, 31), SwordAttic.NOT);
        due("11: x 0", x.cries(0, 0, 0), 0);
    }

    private static void asleep() {
        SwordAttic x = Check.attic(0, 0, 1, 0);
        Check.law(x, "-3");
        Check.bytes(x, 0, 1, 1, 1, 1);
        due("12: 4", x.asleep(0), 4);
        x.mend(1, 3, 19);
        x.mend(0, 3, 19);
        due("12: 3", x.asleep(0), 3);
        x.mend(0, 3, 23);
        due("12: never", x.asleep(0), SwordAttic.NOT);
        x.mend(0, 6, 50);
        due("12: 0", x.asleep(0), 0);
    }

    private static void bestRound() {
        SwordAttic x = Check.attic(2, 0, 8, 0);
        Check.law(x, "0-c*12");
        due("13: n -1", x.bestRound(-1, -1), SwordAttic.BAD);
        due("13: n 4", x.bestRound(4, -1), SwordAttic.BAD);
        due("13: k -3", x.bestRound(2, -3), SwordAttic.BAD);
        due("13: k 2", x.bestRound(2, 2), SwordAttic.BAD);
        due("13: k 0 of 0", x.bestRound(0, 0), SwordAttic.BAD);
        due("13: none", x.bestRound(0, -1), 2);
        due("13: none", x.bestRound(0, -2), 40);
        due("13: one", x.bestRound(1, -1), 1);
        due("13: one", x.bestRound(1, -2), 28);
        due("13: one", x.bestRound(1, 0), 2);
        due("13: two", x.bestRound(2, -1), 0);
        due("13: two", x.bestRound(2, -2), 16);
        due("13: two", x.bestRound(2, 0), 2);
        due("13: two", x.bestRound(2, 1), 8);
        due("13: three", x.bestRound(3, -2), 8);
        due("13: three", x.bestRound(3, 0), 2);
        due("13: three", x.bestRound(3, 1), 2);
        due("13: three", x.bestRound(3, 2), 8);
        Check.law(x, "c*12");
        due("13: the least without", x.bestRound(3, 2), 0);
        // the candle helps only behind the first hour, when HOUR is 0
        Check.law(x, "t=0?0-c*12;0");
        x.mend(0, 5, 11);
        due("13: by the hour", x.bestRound(3, -2), 28);
        due("13: by the hour", x.bestRound(3, 0), 0);
        due("13: by the hour", x.bestRound(3, 1), 2);
        due("13: by the hour", x.bestRound(3, 2), 0);
        due("13: in thought", x.of(0, 3), 20);
    }

    private static void told() {
        SwordAttic x = Check.attic(0, 9, 1, 0, 2, 5);
        due("14: BAD", x.told(2), SwordAttic.BAD);
        due("14: BAD", x.told(-1), SwordAttic.BAD);
        due("14: three", x.told(0), 3);
        due("14: mind", x.told(1), 6);
        x.mend(1, 3, 10);
        x.mend(2, 3, 11);
        due("14: two", x.told(0), 2);
        due("14: mind", x.told(1), 2 + 10 + 0);
        x.mend(0, 3, 28);
        due("14: still", x.told(1), 10 + 10 + 0);
        x.mend(0, 3, 29);
        due("14: can't be", x.told(0), SwordAttic.NOT);
        due("14: can't be", x.told(1), SwordAttic.NOT);
    }

    private static void woken() {
        SwordAttic x = Check.attic(0, 0, 1, 0, 2, 0, 6, 0, 8, 0, 5, 0);
        for (int s = 0; s < 6; s++) {
            x.mend(s, 3, 0);
        }
        due("15: BAD", x.woken(12, 0), SwordAttic.BAD);
        due("15: BAD", x.woken(-1, 0), SwordAttic.BAD);
        due("15: BAD", x.woken(0, 2), SwordAttic.BAD);
        due("15: BAD", x.woken(0, -1), SwordAttic.BAD);
        due("15: goes on", x.woken(0, 0), 31);
        due("15: five", x.woken(0, 1), 5);
        due("15: alone", x.woken(5, 0), 32);
        due("15: nobody", x.woken(3, 1), 0);
        due("15: nobody", x.woken(3, 0), 0);
        x.mend(1, 3, 50);
        due("15: stops at one awake", x.woken(0, 0), 9);
        due("15: it is touched, though", x.woken(0, 1), 3);
        due("15: awake already", x.woken(1, 0), 0);
        due("15: only it", x.woken(1, 1), 1);
        x.mend(1, 3, 0);
        x.mend(0, 6, 15);
        due("15: 15 is asleep", x.woken(0, 0), 0);
        due("15: one", x.woken(0, 1), 1);
        due("15: in thought", x.of(0, 3), 0);
    }

    private static void walk() {
        SwordAttic x = Check.attic(3, 0, 9, 0, 5, 0, 6, 0, 0, 0, 11, 0, 1, 0);
        for (int s = 0; s < 7; s++) {
            x.mend(s, 3, 0);
        }
        due("16: BAD", x.walk(3), SwordAttic.BAD);
        due("16: BAD", x.walk(-1), SwordAttic.BAD);
        due("16: nobody", x.walk(0), SwordAttic.NOT);
        due("16: nobody", x.walk(1), SwordAttic.NOT);
        due("16: nobody", x.walk(2), 0);
        x.mend(0, 3, 11);
        due("16: three", x.walk(0), 3);
        due("16: cot 3", x.walk(1), 3);
        x.mend(0, 7, 8);
        x.mend(1, 3, 20);
        due("16: beside", x.walk(0), 1);
        due("16: cot 9", x.walk(1), 9);
        x.mend(0, 7, 4);
        x.mend(2, 3, 20);
        due("16: like ones", x.walk(1), 3);
        due("16: by all", x.walk(2), 4);
        x.mend(0, 7, 5);
        due("16: there", x.walk(0), 0);
        due("16: there", x.walk(1), 5);
        due("16: by all", x.walk(2), 3);
        x.mend(3, 3, 20);
        x.mend(4, 3, 20);
        x.mend(5, 3, 20);
        due("16: six", x.walk(2), 8);
        x.mend(6, 3, 20);
        due("16: seven", x.walk(2), SwordAttic.STATE);
        due("16: seven", x.walk(0), 0);
    }
}

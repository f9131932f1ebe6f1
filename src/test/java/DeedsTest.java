/** Promises 23 to 31: in deed. */
public final class DeedsTest {
    private static void due(String call, long got, long want) {
        Check.due(call, got, want);
    }

    public static void main(String[] args) {
        hour();
        telling();
        touch();
        hold();
        image();
        undo();
        undoneCots();
        fortyChanges();
        Check.end("DeedsTest");
    }

    private static void led(SwordAttic x, int... want) {
        for (int i = 0; i < want.length; i++) {
            due("27: led(" + i + ")", x.led(i), want[i]);
        }
    }

    private static void hour() {
        SwordAttic x = Check.attic(0, 0, 1, 0, 5, 9);
        due("23: BAD", x.hour(12), SwordAttic.BAD);
        due("23: BAD", x.hour(-1), SwordAttic.BAD);
        due("27: BAD", x.led(5), SwordAttic.BAD);
        due("27: BAD", x.led(-1), SwordAttic.BAD);
        led(x, 0, 0, 0, 0, 0);
        x.mend(0, 3, 9);
        x.mend(1, 3, 13);
        x.mend(2, 3, 0);
        // 0: 3 - 4, 1: 0 - 12, 2: 9 - 4
        due("23: hour", x.hour(1), 0);
        due("23: 0", x.of(0, 3), 8);
        due("23: 1", x.of(1, 3), 1);
        due("23: 2", x.of(2, 3), 5);
        due("23: candle", x.of(0, 7), 1);
        due("23: HOUR", x.of(0, 5), 1);
        led(x, 1, 0, 0, 0, 0);
        due("23: hour", x.hour(1), 0);
        due("23: hour", x.hour(11), 1);
        led(x, 3, 0, 0, 0, 1);
        due("23: hour", x.hour(11), 1);
        led(x, 4, 0, 0, 0, 1);
        due("23: hour", x.hour(5), 1);
        x.mend(2, 3, 7);
        due("23: cries again", x.hour(0), 1);
        led(x, 6, 0, 0, 0, 2);
        x.mend(0, 5, 11);
        due("23: hour", x.hour(0), 1);
        due("23: behind 11", x.of(0, 5), 0);
    }

    private static void telling() {
        SwordAttic x = Check.attic(3, 5);
        due("24: BAD", x.telling(12, 0), SwordAttic.BAD);
        due("24: BAD", x.telling(-1, 0), SwordAttic.BAD);
        due("24: BAD", x.telling(3, 10), SwordAttic.BAD);
        due("24: BAD", x.telling(3, -1), SwordAttic.BAD);
        due("24: BAD first", x.telling(2, 10), SwordAttic.BAD);
        due("24: STATE", x.telling(2, 5), SwordAttic.STATE);
        led(x, 0, 0, 0, 0, 0);
        due("24: 5", x.telling(3, 5), 10);
        due("24: 4", x.telling(3, 4), 14);
        due("24: 0", x.telling(3, 0), 14);
        due("24: 9", x.telling(3, 9), 0);
        x.mend(0, 3, 97);
        due("24: 99 at most", x.telling(3, 4), 99);
        led(x, 0, 5, 0, 0, 0);
    }

    private static void touch() {
        SwordAttic x = Check.attic(0, 0, 6, 0, 7, 0, 2, 0);
        due("25: BAD", x.touch(12), SwordAttic.BAD);
        due("25: BAD", x.touch(-1), SwordAttic.BAD);
        due("25: STATE", x.touch(1), SwordAttic.STATE);
        led(x, 0, 0, 0, 0, 0);
        due("25: awake already", x.touch(0), 0);
        due("25: MIND", x.of(0, 3), 35);
        due("25: it does not go on", x.of(1, 3), 20);
        led(x, 0, 0, 1, 0, 0);
        x.mend(0, 3, 0);
        x.mend(1, 3, 0);
        x.mend(2, 3, 90);
        due("25: two", x.touch(0), 2);
        due("25: once each", x.of(0, 3), 15);
        due("25: once each", x.of(1, 3), 15);
        due("25: 99 at most", x.of(2, 3), 99);
        due("25: not that far", x.of(3, 3), 20);
        led(x, 0, 0, 2, 2, 0);
    }

    private static void hold() {
        SwordAttic x = Check.attic(0, 4);
        due("26: BAD", x.hold(1, 0), SwordAttic.BAD);
        due("26: BAD", x.hold(-1, 0), SwordAttic.BAD);
        due("26: BAD", x.hold(0, 2), SwordAttic.BAD);
        due("26: BAD", x.hold(0, -1), SwordAttic.BAD);
        due("26: held", x.hold(0, 1), 0);
        due("26: held", x.hold(0, 1), 1);
        due("26: of", x.of(0, 4), 1);
        due("23: held", x.hour(5), 1);
        due("23: 3 less", x.of(0, 3), 17);
        due("26: let go", x.hold(0, 0), 1);
        due("23: hour", x.hour(5), 1);
        due("23: as it was", x.of(0, 3), 17);
        due("26: no change", x.undo(), SwordAttic.STATE);
    }

    private static void image() {
        SwordAttic x = Check.attic(0, 4, 5, 4);
        due("29: none", x.back(), SwordAttic.STATE);
        for (int i = 0; i < 13; i++) {
            x.hour(7);
        }
        x.hold(1, 1);
        due("28: hours led, not HOUR", x.image(), 13);
        x.mend(0, 0, 3);
        x.mend(0, 1, 0);
        x.mend(0, 6, 40);
        x.hour(1);
        x.touch(3);
        x.telling(3, 9);
        x.hold(1, 0);
        x.hold(0, 1);
        due("2: one more", x.sword(11, 9), 2);
        x.mend(2, 3, 77);
        x.hold(2, 1);
        due("29: back", x.back(), 13);
        led(x, 13, 0, 0, 0, 0);
        due("29: HOUR", x.of(0, 5), 1);
        due("29: CANDLE", x.of(0, 7), 7);
        due("29: MIND", x.of(0, 3), 20);
        due("29: HELD", x.of(0, 4), 0);
        due("29: HELD", x.of(1, 4), 1);
        due("29: came since", x.of(2, 3), 77);
        due("29: came since", x.of(2, 4), 1);
        due("29: COT is not kept", x.of(0, 0), 3);
        due("29: DID is not kept", x.of(0, 1), 0);
        due("29: SLEEPS is not kept", x.of(0, 6), 40);
        x.hour(2);
        due("29: once more", x.back(), 13);
        x.hour(2);
        due("28: anew", x.image(), 14);
        x.hour(2);
        due("29: the new one", x.back(), 14);
        due("29: the new one", x.of(0, 7), 2);
    }

    private static void undo() {
        SwordAttic x = Check.attic(0, 4);
        due("30: none", x.undo(), SwordAttic.STATE);
        due("31: none", x.redo(), SwordAttic.STATE);
        int[] v = {3, 5, 70, 8, 1, 9, 30, 6};
        int[] was = {0, 4, 50, 20, 0, 0, 10, 0};
        for (int what = 0; what < 8; what++) {
            due("4: mend", x.mend(0, what, v[what]), was[what]);
            due("4: the same is none", x.mend(0, what, v[what]), v[what]);
            due("41: changes", x.count(3), what + 1);
        }
        for (int what = 7; what >= 0; what--) {
            due("30: undo", x.undo(), what);
            due("30: as it was", x.of(0, what), was[what]);
        }
        due("30: none", x.undo(), SwordAttic.STATE);
        due("30: in its cot", x.of(0, 8), 0);
        due("30: not in the other", x.of(3, 8), SwordAttic.NOT);
        for (int what = 0; what < 8; what++) {
            due("31: redo", x.redo(), 7 - what);
            due("31: done again", x.of(0, what), v[what]);
        }
        due("31: none", x.redo(), SwordAttic.STATE);
        x.hour(2);
        x.touch(3);
        x.hold(0, 0);
        due("30: the candle, over a deed", x.undo(), 7);
        due("30: the candle", x.of(0, 7), 0);
        due("4: the same is none", x.mend(0, 7, 0), 0);
        due("4: BAD", x.mend(0, 7, 12), SwordAttic.BAD);
        due("31: so it may be done again", x.redo(), 0);
        due("31: the candle", x.of(0, 7), 6);
        due("30: undo", x.undo(), 7);
        due("30: undo", x.undo(), 6);
        due("4: another one", x.mend(0, 2, 1), 70);
        due("31: none", x.redo(), SwordAttic.STATE);
        due("41: changes", x.count(3), 7);
        due("30: undo", x.undo(), 6);
        due("30: YEARS", x.of(0, 2), 70);
        due("30: HOUR", x.undo(), 5);
        due("30: HOUR", x.of(0, 5), 0);
    }

    private static void undoneCots() {
        SwordAttic x = Check.attic(0, 4);
        due("4: away", x.mend(0, 0, 3), 0);
        due("2: another one", x.sword(0, 1), 1);
        due("30: it stays", x.undo(), 0);
        due("30: where it is", x.of(0, 0), 3);
        due("30: the other too", x.of(1, 0), 0);
        due("30: gone over", x.undo(), SwordAttic.STATE);
        due("31: again", x.redo(), 0);
        due("31: where it is", x.of(0, 0), 3);
        due("4: on", x.mend(0, 0, 4), 3);
        due("30: undo", x.undo(), 1);
        due("30: 3", x.of(0, 0), 3);
        due("2: another one", x.sword(4, 1), 2);
        due("31: it stays", x.redo(), 0);
        due("31: where it is", x.of(0, 0), 3);
        due("31: the other too", x.of(4, 8), 2);
        due("30: undo", x.undo(), 1);
        due("30: 3", x.of(0, 0), 3);
        due("30: in 3", x.of(3, 8), 0);
    }

    private static void fortyChanges() {
        SwordAttic x = Check.attic(0, 4);
        for (int i = 1; i <= 45; i++) {
            due("4: mend", x.mend(0, 2, 50 + i), 49 + i);
            due("41: 40 at most", x.count(3), Math.min(40, i));
        }
        for (int i = 0; i < 40; i++) {
            due("30: undo", x.undo(), 39 - i);
            due("30: YEARS", x.of(0, 2), 94 - i);
        }
        due("30: the first five are gone", x.undo(), SwordAttic.STATE);
        for (int i = 0; i < 40; i++) {
            due("31: redo", x.redo(), 39 - i);
            due("31: YEARS", x.of(0, 2), 56 + i);
        }
        due("31: none", x.redo(), SwordAttic.STATE);
        fortyChangesOfTwo();
    }

    /** Numbers and whats must be dropped with the first changes, too. */
    private static void fortyChangesOfTwo() {
        int drops = 17;
        SwordAttic x = Check.attic(0, 4, 1, 4);
        int[][] states = new int[41 + drops][];
        states[0] = yearsAndMinds(x);
        for (int i = 0; i < 40 + drops; i++) {
            unevenChange(x, i);
            states[i + 1] = yearsAndMinds(x);
        }
        due("41: forty are kept", x.count(3), 40);
        for (int i = 39; i >= 0; i--) {
            due("30: undo", x.undo(), i);
            int[] then = yearsAndMinds(x);
            for (int k = 0; k < then.length; k++) {
                due("30: as behind change " + (drops + i), then[k], states[drops + i][k]);
            }
        }
    }

    private static int[] yearsAndMinds(SwordAttic x) {
        return new int[] {x.of(0, 2), x.of(0, 3), x.of(1, 2), x.of(1, 3)};
    }

    /** The bits of two odd numbers choose whose and what, so that no shift of them is like them. */
    private static void unevenChange(SwordAttic x, int i) {
        int sword = 0x2E5A1C97 >>> i % 31 & 1;
        int what = 2 + (0x13D9A6C5 >>> i % 29 & 1);
        x.mend(sword, what, 30 + i);
    }
}

/** Promises 1 to 8, but for the texts of laws (LawTest). */
public final class SwordsTest {
    private static void due(String call, long got, long want) {
        Check.due(call, got, want);
    }

    public static void main(String[] args) {
        newObject();
        sword();
        swords();
        mend();
        of();
        feed();
        grows();
        Check.end("SwordsTest");
    }

    private static void newObject() {
        SwordAttic x = new SwordAttic();
        for (int c = 0; c < 12; c++) {
            due("1: of(" + c + ", 8)", x.of(c, 8), SwordAttic.NOT);
        }
        for (int what = 0; what <= 5; what++) {
            due("1: count(" + what + ")", x.count(what), 0);
        }
        due("1: HOUR", x.of(0, 5), 0);
        due("1: SLEEPS", x.of(0, 6), 10);
        due("1: CANDLE", x.of(0, 7), 0);
        for (int s = 0; s < 6; s++) {
            due("1: shelf holds nothing", x.put(s, 0, 0), -11);
        }
    }

    private static void sword() {
        SwordAttic x = new SwordAttic();
        due("2: cot 12", x.sword(12, 0), SwordAttic.BAD);
        due("2: cot -1", x.sword(-1, 0), SwordAttic.BAD);
        due("2: did 10", x.sword(0, 10), SwordAttic.BAD);
        due("2: did -1", x.sword(0, -1), SwordAttic.BAD);
        due("2: none came", x.count(0), 0);
        for (int i = 0; i < 10; i++) {
            due("2: sword", x.sword(11 - i, i), i);
            due("2: COT", x.of(i, 0), 11 - i);
            due("2: DID", x.of(i, 1), i);
            due("2: YEARS", x.of(i, 2), 50);
            due("2: MIND", x.of(i, 3), 20);
            due("2: HELD", x.of(i, 4), 0);
            due("2: in cot", x.of(11 - i, 8), i);
        }
        due("2: taken, ahead of FULL", x.sword(5, 0), SwordAttic.BAD);
        due("2: did, ahead of FULL", x.sword(0, 10), SwordAttic.BAD);
        due("2: FULL", x.sword(0, 0), SwordAttic.FULL);
        due("2: ten", x.count(0), 10);
        due("2: still none", x.of(0, 8), SwordAttic.NOT);
    }

    private static void swords() {
        SwordAttic x = new SwordAttic();
        due("3: missing", x.swords(0, 0, 1), 0);
        due("3: shelf 6", x.swords(6, 0, 1), SwordAttic.BAD);
        due("3: shelf -1", x.swords(-1, 0, 1), SwordAttic.BAD);
        due("3: n 0", x.swords(0, 0, 0), SwordAttic.BAD);
        due("3: n 11", x.swords(0, 0, 11), SwordAttic.BAD);
        due("3: missing, place -1", x.swords(0, -1, 1), 0);
        due("3: missing, the least place", x.swords(0, Integer.MIN_VALUE, 10), 0);
        due("3: shelf 6, place -1", x.swords(6, -1, 1), SwordAttic.BAD);
        due("3: n 0, place -1", x.swords(0, -1, 0), SwordAttic.BAD);
        x.row(1, 1, 9);
        due("3: shorts", x.swords(1, 0, 1), -12);
        due("3: shorts, place -1", x.swords(1, -1, 1), -12);
        x.body(0);
        x.keep(1, 0);
        due("3: a blade", x.swords(1, 0, 1), -12);
        due("3: n ahead of -12", x.swords(1, 0, 11), SwordAttic.BAD);
        Check.bytes(x, 0, 99, 1, 2, 30, 3, 4, 50, 5);
        due("3: place -1", x.swords(0, -1, 10), 0);
        due("3: place -3", x.swords(0, -3, 10), 0);
        due("3: the least place", x.swords(0, Integer.MIN_VALUE, 10), 0);
        due("3: none came", x.count(0), 0);
        due("3: from place 1", x.swords(0, 1, 10), 2);
        due("3: COT", x.of(0, 0), 1);
        due("3: DID", x.of(0, 1), 2);
        due("3: YEARS", x.of(0, 2), 30);
        due("3: MIND", x.of(0, 3), 20);
        due("3: second", x.of(1, 0), 3);
        due("3: taken", x.swords(0, 1, 10), 0);
        due("3: at the end", x.swords(0, 8, 1), 0);
        due("3: behind the end", x.swords(0, Integer.MAX_VALUE, 10), 0);
        Check.bytes(x, 0, 5, 9, 99, 6, 0, 0, 7, 1, 1);
        due("3: only n", x.swords(0, 0, 2), 2);
        due("3: not the third", x.of(7, 8), SwordAttic.NOT);
        Check.bytes(x, 0, 8, 1, 100, 9, 1, 1);
        due("3: years", x.swords(0, 0, 2), 0);
        Check.bytes(x, 0, 8, 10, 1, 9, 1, 1);
        due("3: did", x.swords(0, 0, 2), 0);
        Check.bytes(x, 0, 8, 1, 1, 9, 1, -1);
        due("3: those ahead came", x.swords(0, 0, 2), 1);
        Check.bytes(x, 0, 12, 1, 1);
        due("3: cot", x.swords(0, 0, 1), 0);
        Check.bytes(x, 0, 0, 1, 1, 2, 1, 1, 4, 1, 1, 7, 1, 1, 9, 1, 1, 10, 1, 1);
        due("3: full", x.swords(0, 0, 10), 5);
        due("3: ten", x.count(0), 10);
        due("3: full already", x.swords(0, 15, 1), 0);
    }

    private static void mend() {
        SwordAttic x = Check.attic(0, 1, 1, 2);
        int[] greatest = {11, 9, 99, 99, 1, 11, 50, 11};
        int[] first = {0, 1, 50, 20, 0, 0, 10, 0};
        for (int what = 0; what < 8; what++) {
            due("4: below", x.mend(0, what, -1), SwordAttic.BAD);
            due("4: above", x.mend(0, what, greatest[what] + 1), SwordAttic.BAD);
            due("4: as it was", x.of(0, what), first[what]);
            due("4: greatest", x.mend(0, what, greatest[what]), first[what]);
            due("4: it became", x.of(0, what), greatest[what]);
            due("4: 0", x.mend(0, what, 0), greatest[what]);
            due("4: no such", x.mend(2, what, 0), SwordAttic.BAD);
            due("4: -1", x.mend(-1, what, 0), SwordAttic.BAD);
        }
        due("4: number of HOUR", x.mend(1, 5, 0), SwordAttic.BAD);
        due("4: number of SLEEPS", x.mend(1, 6, 0), SwordAttic.BAD);
        due("4: number of CANDLE", x.mend(1, 7, 0), SwordAttic.BAD);
        due("4: what 8", x.mend(0, 8, 0), SwordAttic.BAD);
        due("4: what -1", x.mend(0, -1, 0), SwordAttic.BAD);
        due("4: taken", x.mend(1, 0, 0), SwordAttic.BAD);
        due("4: its own", x.mend(1, 0, 1), 1);
        due("4: free", x.mend(0, 0, 7), 0);
        due("4: left", x.mend(1, 0, 0), 1);
        due("4: in 0", x.of(0, 8), 1);
        due("4: in 1", x.of(1, 8), SwordAttic.NOT);
        due("4: in 7", x.of(7, 8), 0);
    }

    private static void of() {
        SwordAttic x = Check.attic(4, 6);
        due("5: none", x.of(1, 0), SwordAttic.BAD);
        due("5: -1", x.of(-1, 0), SwordAttic.BAD);
        due("5: what 9", x.of(0, 9), SwordAttic.BAD);
        due("5: what -1", x.of(0, -1), SwordAttic.BAD);
        due("5: number of HOUR", x.of(1, 5), SwordAttic.BAD);
        due("5: cot -1", x.of(-1, 8), SwordAttic.BAD);
        due("5: cot 12", x.of(12, 8), SwordAttic.BAD);
        due("5: cot 4", x.of(4, 8), 0);
        due("5: cot 11", x.of(11, 8), SwordAttic.NOT);
    }

    private static void feed() {
        SwordAttic x = new SwordAttic();
        due("6: 256", x.feed(256), SwordAttic.BAD);
        due("6: -1", x.feed(-1), SwordAttic.BAD);
        for (int i = 0; i < 120; i++) {
            due("6: feed", x.feed(i % 2 == 0 ? 0 : 255), i + 1);
        }
        due("6: BAD ahead of FULL", x.feed(256), SwordAttic.BAD);
        due("6: FULL", x.feed(0), SwordAttic.FULL);
        due("6: count", x.count(2), 120);
        due("7: fault", x.law(), -100);
        due("7: empty then", x.count(2), 0);
        due("6: anew", x.feed('d'), 1);
    }

    private static void grows() {
        SwordAttic x = Check.attic(0, 9, 1, 0, 6, 3, 5, 4);
        due("8: no such", x.grows(4), SwordAttic.VOID);
        due("8: -1", x.grows(-1), SwordAttic.VOID);
        due("8: candle and two beside", x.grows(0), 9 + 6 - 2 - 8 - 2);
        due("8: beside 0", x.grows(1), 0 + 3 - 2 - 2);
        due("8: across", x.grows(2), 3 + 3 - 2 - 2);
        due("8: 5 is not beside 6", x.grows(3), 4 - 2 - 2);
        x.mend(3, 2, 39);
        due("8: years are cut", x.grows(3), 4 - 1 - 2);
        x.mend(3, 4, 1);
        due("8: held is no law", x.grows(3), 4 - 1 - 2);
        x.mend(0, 3, 10);
        due("8: 10 is asleep", x.grows(1), 0 - 2 - 2);
        x.mend(0, 3, 11);
        due("8: 11 is awake", x.grows(1), 0 + 3 - 2 - 2);
        x.mend(0, 6, 11);
        due("8: by SLEEPS", x.grows(1), 0 - 2 - 2);
        due("8: law", Check.law(x, "d*1000"), 1);
        due("8: 20 at most", x.grows(0), 20);
        due("8: 0", x.grows(1), 0);
        due("8: law", Check.law(x, "-d*1000"), 1);
        due("8: -20 at least", x.grows(0), -20);
        due("8: no such", x.grows(4), SwordAttic.VOID);
    }
}

/** Edges of what is IN DEED: promises 23 to 31. */
final class DeedEdges {
    private static final int BAD = SwordAttic.BAD, NOT = SwordAttic.NOT, STATE = SwordAttic.STATE;

    private DeedEdges() {
    }

    private static void due(String call, long got, long want) {
        Check.due(call, got, want);
    }

    private static void led(SwordAttic x, int... want) {
        for (int i = 0; i < want.length; i++) {
            due("led(" + i + ")", x.led(i), want[i]);
        }
    }

    static void test() {
        calls512();
        inDeed();
        hour();
        telling();
        touch();
        hold();
        ledCries();
        ledWoken();
        ledBounds();
        imageKeeps();
        imageOfNone();
        imageHours();
        backWithout();
        backSince();
        changes();
        sameIsNone();
        cotTaken();
        doneAgain();
        forty();
        deedsAreNone();
        undoBounds();
        redoBounds();
    }

    private static void calls512() {
        Edge.begin("What it is", "An object is used for at most 512 calls after it has been made");
        SwordAttic x = Check.attic(3, 0);
        for (int i = 1; i <= 510; i++) {
            due("call " + (i + 1), x.hour(3), 0);
        }
        due("the 512th call", x.led(0), 510);
    }

    private static void inDeed() {
        Edge.ofTerms("IN DEED: an HOUR passes with the CANDLE at a COT; a TELLING; a TOUCH; a SWORD is HELD, or let go.");
        SwordAttic x = Check.attic(11, 9);
        x.mend(0, 5, 11);
        due("an hour, the candle at the last cot", x.hour(11), 1);
        due("MIND", x.of(0, 3), 20 + 9 - 2 - 8 - 2);
        due("HOUR", x.of(0, 5), 0);
        due("the candle", x.of(0, 7), 11);
        due("a telling", x.telling(11, 9), 0);
        due("MIND", x.of(0, 3), 0);
        due("a touch", x.touch(11), 1);
        due("MIND", x.of(0, 3), 15);
        due("held", x.hold(0, 1), 0);
        due("HELD", x.of(0, 4), 1);
        due("let go", x.hold(0, 0), 1);
        due("HELD", x.of(0, 4), 0);
        led(x, 1, 1, 1, 1, 0);
    }

    private static void hour() {
        Edge.of(23, "An HOUR passes with the CANDLE at a COT: how many are AWAKE then. BAD.");
        SwordAttic x = new SwordAttic();
        int[] none = {-1, 12, Integer.MIN_VALUE, Integer.MAX_VALUE};
        for (int cot : none) {
            due("cot " + cot, x.hour(cot), BAD);
        }
        due("no hour has passed", x.of(0, 5), 0);
        led(x, 0, 0, 0, 0, 0);
        due("nobody is there", x.hour(11), 0);
        due("the candle is at 11", x.of(0, 7), 11);
        due("nobody is there", x.hour(0), 0);
        due("the candle is at 0", x.of(0, 7), 0);
        led(x, 2, 0, 0, 0, 0);
        SwordAttic full = SwordEdges.full();
        Check.law(full, "20");
        due("all ten", full.hour(5), 10);
        Check.law(full, "-20");
        full.hour(5);
        due("none", full.hour(5), 0);
    }

    private static void telling() {
        Edge.of(24, "A TELLING of n at a COT: MIND then. BAD; STATE: no SWORD is there.");
        SwordAttic x = Check.attic(0, 0, 11, 9);
        int[] noCots = {-1, 12, Integer.MIN_VALUE, Integer.MAX_VALUE};
        for (int cot : noCots) {
            due("cot " + cot, x.telling(cot, 5), BAD);
        }
        int[] noN = {-1, 10, Integer.MIN_VALUE, Integer.MAX_VALUE};
        for (int n : noN) {
            due("n " + n, x.telling(0, n), BAD);
            due("n " + n + " where nobody is, BAD first", x.telling(1, n), BAD);
        }
        for (int cot = 1; cot < 11; cot++) {
            due("nobody in " + cot, x.telling(cot, 0), STATE);
            due("nobody in " + cot, x.telling(cot, 9), STATE);
        }
        led(x, 0, 0, 0, 0, 0);
        due("0 to DID 0", x.telling(0, 0), 20);
        due("0 to DID 9", x.telling(11, 0), 20);
        due("9 to DID 0", x.telling(0, 9), 2);
        due("9 to DID 9", x.telling(11, 9), 2);
        due("8 to DID 9", x.telling(11, 8), 10);
        led(x, 0, 5, 0, 0, 0);
        x.mend(0, 0, 5);
        due("nobody is there any more", x.telling(0, 1), STATE);
        due("it is here", x.telling(5, 1), 0);
    }

    private static void touch() {
        Edge.of(25, "A TOUCH at a COT: how many are woken. BAD; STATE: no SWORD is there.");
        SwordAttic x = Check.attic(0, 0, 11, 0);
        int[] noCots = {-1, 12, Integer.MIN_VALUE, Integer.MAX_VALUE};
        for (int cot : noCots) {
            due("cot " + cot, x.touch(cot), BAD);
        }
        for (int cot = 1; cot < 11; cot++) {
            due("nobody in " + cot, x.touch(cot), STATE);
        }
        led(x, 0, 0, 0, 0, 0);
        due("awake already", x.touch(0), 0);
        x.mend(1, 3, 0);
        due("one is woken", x.touch(11), 1);
        due("no more than once", x.touch(11), 0);
        led(x, 0, 0, 3, 1, 0);
        SwordAttic full = SwordEdges.full();
        for (int s = 0; s < 10; s++) {
            full.mend(s, 3, 0);
        }
        due("all ten", full.touch(1), 10);
        led(full, 0, 0, 1, 10, 0);
    }

    private static void hold() {
        Edge.of(26, "A SWORD is HELD (how 1), let go (0): what it was. BAD.");
        SwordAttic x = new SwordAttic();
        due("no sword yet", x.hold(0, 1), BAD);
        SwordAttic full = SwordEdges.full();
        int[] noSwords = {-1, 10, Integer.MIN_VALUE, Integer.MAX_VALUE};
        for (int s : noSwords) {
            due("sword " + s, full.hold(s, 0), BAD);
            due("sword " + s, full.hold(s, 1), BAD);
        }
        int[] none = {-1, 2, Integer.MIN_VALUE, Integer.MAX_VALUE};
        for (int how : none) {
            due("how " + how, full.hold(9, how), BAD);
            due("not held", full.of(9, 4), 0);
        }
        due("let go, it was not held", full.hold(9, 0), 0);
        due("held", full.hold(9, 1), 0);
        due("held already", full.hold(9, 1), 1);
        due("of", full.of(9, 4), 1);
        due("nobody else", full.of(8, 4), 0);
        due("let go", full.hold(9, 0), 1);
        due("no longer", full.of(9, 4), 0);
        due("no change", full.count(3), 0);
    }

    private static void ledCries() {
        Edge.ofTerms("cries (each SWORD AWAKE behind an hour that was not ahead of it).");
        SwordAttic x = Check.under("t%2?-1;1", 0, 5, 10);
        Check.minds(x, 10, 11, 9);
        due("0 wakes, 1 was awake", x.hour(3), 2);
        led(x, 1, 0, 0, 0, 1);
        due("0 sleeps", x.hour(3), 1);
        led(x, 2, 0, 0, 0, 1);
        due("0 wakes again", x.hour(3), 2);
        led(x, 3, 0, 0, 0, 2);
        x.touch(0);
        x.touch(10);
        due("by touches they were awake ahead of it", x.hour(3), 3);
        led(x, 4, 0, 2, 1, 2);
        x.mend(0, 6, 50);
        due("all sleep", x.hour(3), 0);
        x.mend(0, 6, 0);
        due("awake by SLEEPS ahead of it", x.hour(3), 3);
        led(x, 6, 0, 2, 1, 2);
        SwordAttic full = SwordEdges.full();
        Check.law(full, "1");
        for (int s = 0; s < 10; s++) {
            full.mend(s, 3, 10);
        }
        full.hour(11);
        led(full, 1, 0, 0, 0, 10);
    }

    private static void ledWoken() {
        Edge.ofTerms("LED: hours, tellings, touches, woken (by touches)");
        SwordAttic x = Check.attic(0, 5, 1, 5);
        Check.minds(x, 10, 10);
        due("a telling wakes it", x.telling(0, 4), 14);
        led(x, 0, 1, 0, 0, 0);
        x.mend(0, 3, 10);
        due("two are woken by a touch", x.touch(0), 2);
        led(x, 0, 1, 1, 2, 0);
        x.mend(1, 3, 0);
        due("awake already: it does not pass on", x.touch(0), 0);
        led(x, 0, 1, 2, 2, 0);
        x.woken(1, 0);
        x.drawn(1, 302412, -1);
        x.byTurns(4, 0);
        x.bestRound(2, 0);
        led(x, 0, 1, 2, 2, 0);
    }

    private static void ledBounds() {
        Edge.of(27, "LED: hours (what 0), tellings (1), touches (2), woken (3), cries (4). BAD.");
        SwordAttic x = new SwordAttic();
        led(x, 0, 0, 0, 0, 0);
        int[] none = {-1, 5, Integer.MIN_VALUE, Integer.MAX_VALUE};
        for (int what : none) {
            due("what " + what, x.led(what), BAD);
        }
    }

    private static void imageKeeps() {
        Edge.ofTerms("AN IMAGE keeps MIND, HELD of SWORDS, HOUR, the CANDLE, what LED tells.");
        SwordAttic x = SwordEdges.full();
        x.hold(9, 1);
        x.mend(9, 3, 99);
        x.mend(0, 3, 0);
        x.mend(0, 5, 10);
        x.hour(11);
        x.telling(10, 9);
        x.touch(1);
        int[][] were = numbersOf(x);
        int hour = x.of(0, 5);
        int[] ledThen = {x.led(0), x.led(1), x.led(2), x.led(3), x.led(4)};
        due("image", x.image(), 1);
        for (int s = 0; s < 10; s++) {
            x.mend(s, 2, 99 - s);
            x.mend(s, 3, 5 + s);
            x.hold(s, s == 9 ? 0 : 1);
        }
        x.mend(9, 0, 0);
        x.mend(9, 1, 4);
        x.mend(0, 6, 33);
        x.hour(2);
        x.hour(2);
        x.telling(1, 1);
        x.touch(2);
        Check.law(x, "17");
        x.feed('d');
        int changes = x.count(3);
        due("back", x.back(), 1);
        for (int s = 0; s < 10; s++) {
            due("MIND of " + s, x.of(s, 3), were[s][3]);
            due("HELD of " + s, x.of(s, 4), were[s][4]);
            due("YEARS are not kept", x.of(s, 2), 99 - s);
        }
        due("HOUR", x.of(0, 5), hour);
        due("CANDLE", x.of(0, 7), 11);
        led(x, ledThen);
        due("COT is not kept", x.of(9, 0), 0);
        due("DID is not kept", x.of(9, 1), 4);
        due("SLEEPS is not kept", x.of(0, 6), 33);
        due("nor the law", x.grows(0), 17);
        due("nor the tape", x.count(2), 1);
        due("nor the changes", x.count(3), changes);
    }

    private static int[][] numbersOf(SwordAttic x) {
        int[][] all = new int[x.count(0)][5];
        for (int s = 0; s < all.length; s++) {
            for (int what = 0; what < 5; what++) {
                all[s][what] = x.of(s, what);
            }
        }
        return all;
    }

    private static void imageOfNone() {
        Edge.of(28, "AN IMAGE is kept: hours.");
        SwordAttic x = new SwordAttic();
        due("of nobody, ahead of all hours", x.image(), 0);
        x.sword(0, 3);
        x.mend(0, 3, 77);
        x.hold(0, 1);
        x.mend(0, 7, 5);
        x.hour(3);
        due("back", x.back(), 0);
        due("who came since is as it is", x.of(0, 3), 77 + 3 - 2 - 2 - 3);
        due("who came since is as it is", x.of(0, 4), 1);
        due("HOUR", x.of(0, 5), 0);
        due("CANDLE", x.of(0, 7), 0);
        led(x, 0, 0, 0, 0, 0);
    }

    private static void imageHours() {
        Edge.of(28, "hours.");
        SwordAttic x = new SwordAttic();
        for (int i = 0; i < 12; i++) {
            x.hour(0);
        }
        due("HOUR is 0 again", x.of(0, 5), 0);
        due("twelve hours", x.image(), 12);
        x.hour(0);
        due("back to twelve", x.back(), 12);
        due("mending HOUR", x.mend(0, 5, 7), 0);
        due("makes no hours", x.image(), 12);
    }

    private static void backWithout() {
        Edge.of(29, "hours. STATE: there is none.");
        SwordAttic x = new SwordAttic();
        due("none", x.back(), STATE);
        x.hour(4);
        due("none", x.back(), STATE);
        due("the hour stays", x.led(0), 1);
        due("the candle stays", x.of(0, 7), 4);
        due("image", x.image(), 1);
        due("back", x.back(), 1);
        x.hour(5);
        due("it stays for another time", x.back(), 1);
        due("the candle", x.of(0, 7), 4);
        x.hour(6);
        due("a later one", x.image(), 2);
        x.hour(7);
        due("the later one counts", x.back(), 2);
        due("the candle", x.of(0, 7), 6);
    }

    private static void backSince() {
        Edge.of(29, "It is laid back (SWORDS that came since as they are)");
        SwordAttic x = Check.attic(0, 4);
        x.mend(0, 3, 50);
        x.image();
        x.mend(0, 3, 60);
        due("sword", x.sword(11, 9), 1);
        x.mend(1, 3, 70);
        x.hold(1, 1);
        due("back", x.back(), 0);
        due("the one of then", x.of(0, 3), 50);
        due("the one that came since", x.of(1, 3), 70);
        due("the one that came since", x.of(1, 4), 1);
        due("both are there", x.count(0), 2);
        x.image();
        x.mend(1, 3, 5);
        x.back();
        due("it is in the next image", x.of(1, 3), 70);
        due("the changes stay", x.undo(), 3);
        due("the latest is undone", x.of(1, 3), 70);
        due("the one ahead", x.undo(), 2);
        due("MIND as at first", x.of(1, 3), 20);
    }

    private static void changes() {
        Edge.ofTerms("CHANGES (all numbers of mend();", "can be UNDONE, the latest first");
        int[] to = {11, 9, 99, 99, 1, 11, 50, 11};
        int[] was = {4, 2, 50, 20, 0, 0, 10, 0};
        for (int what = 0; what < 8; what++) {
            SwordAttic x = Check.attic(4, 2);
            due("mend", x.mend(0, what, to[what]), was[what]);
            due("one", x.count(3), 1);
            due("undone", x.undo(), 0);
            due("as it was", x.of(0, what), was[what]);
            due("none", x.count(3), 0);
            due("done again", x.redo(), 0);
            due("as mended", x.of(0, what), to[what]);
            due("one", x.count(3), 1);
        }
        SwordAttic y = Check.attic(4, 2);
        for (int v = 1; v <= 3; v++) {
            y.mend(0, 3, v);
        }
        due("3 is undone first", y.undo(), 2);
        due("2", y.of(0, 3), 2);
        due("then 2", y.undo(), 1);
        due("1", y.of(0, 3), 1);
        due("then 1", y.undo(), 0);
        due("20", y.of(0, 3), 20);
    }

    private static void sameIsNone() {
        Edge.ofTerms("telling the same number is none)");
        SwordAttic x = Check.attic(4, 2);
        int[] first = {4, 2, 50, 20, 0, 0, 10, 0};
        for (int what = 0; what < 8; what++) {
            due("the same", x.mend(0, what, first[what]), first[what]);
            due("none", x.count(3), 0);
        }
        due("nothing to undo", x.undo(), STATE);
        x.mend(0, 2, 7);
        x.undo();
        due("the same again", x.mend(0, 2, 50), 50);
        due("it does not end what may be done again", x.redo(), 0);
        due("7", x.of(0, 2), 7);
    }

    private static void cotTaken() {
        Edge.ofTerms("(a COT that another one has taken since: it stays where it is, that is all)");
        SwordAttic x = Check.attic(0, 4);
        x.mend(0, 2, 30);
        x.mend(0, 0, 3);
        due("another one", x.sword(0, 1), 1);
        due("undone", x.undo(), 1);
        due("it stays", x.of(0, 0), 3);
        due("it is found there", x.of(3, 8), 0);
        due("the other one stays", x.of(0, 8), 1);
        due("the one ahead is undone", x.undo(), 0);
        due("YEARS", x.of(0, 2), 50);
        due("done again", x.redo(), 1);
        due("done again", x.redo(), 0);
        due("where it was all the time", x.of(0, 0), 3);
        SwordAttic y = Check.attic(0, 4, 1, 4);
        y.mend(0, 0, 5);
        y.undo();
        y.mend(1, 2, 30);
        due("that ends what may be done again", y.redo(), STATE);
        SwordAttic z = Check.attic(0, 4);
        z.mend(0, 0, 5);
        z.undo();
        due("another one", z.sword(5, 1), 1);
        due("done again", z.redo(), 0);
        due("it stays", z.of(0, 0), 0);
        due("the other one stays", z.of(5, 8), 1);
        due("it may be undone", z.undo(), 0);
        due("it stays", z.of(0, 0), 0);
    }

    private static void doneAgain() {
        Edge.ofTerms("and DONE AGAIN (as long as no other came behind)");
        SwordAttic x = Check.attic(0, 4);
        for (int v = 1; v <= 4; v++) {
            x.mend(0, 3, v);
        }
        x.undo();
        x.undo();
        x.undo();
        due("one again", x.redo(), 2);
        due("2", x.of(0, 3), 2);
        due("BAD is no change", x.mend(0, 3, 100), BAD);
        due("a sword is none", x.sword(1, 1), 1);
        x.hour(3);
        x.hold(0, 1);
        due("one more", x.redo(), 1);
        due("3", x.of(0, 3), 3);
        due("another one comes behind", x.mend(0, 2, 9), 50);
        due("no more", x.redo(), STATE);
        due("four may be undone", x.count(3), 4);
        x.undo();
        due("it may be done again", x.redo(), 0);
        due("9", x.of(0, 2), 9);
    }

    private static void forty() {
        Edge.ofTerms("40 at most are kept");
        int[] howMany = {39, 40, 41, 80};
        for (int n : howMany) {
            int kept = Math.min(40, n);
            SwordAttic x = Check.attic(0, 4);
            for (int i = 1; i <= n; i++) {
                x.mend(0, 3, 20 - 20 * (i % 2) + (i + 1) / 2);
            }
            due("kept of " + n, x.count(3), kept);
            for (int i = 1; i <= kept; i++) {
                due("undone", x.undo(), kept - i);
                int left = n - i;
                due("as it was", x.of(0, 3), left == 0 ? 20 : 20 - 20 * (left % 2) + (left + 1) / 2);
            }
            due("no more", x.undo(), STATE);
            for (int i = 1; i <= kept; i++) {
                due("done again", x.redo(), kept - i);
                int made = n - kept + i;
                due("as it became", x.of(0, 3), 20 - 20 * (made % 2) + (made + 1) / 2);
            }
        }
        SwordAttic y = Check.attic(0, 4);
        for (int i = 1; i <= 40; i++) {
            y.mend(0, 2, 50 + i);
        }
        y.undo();
        due("one is done again at 40", y.redo(), 0);
        due("40", y.count(3), 40);
        y.undo();
        y.mend(0, 2, 1);
        due("40 behind an undone one", y.count(3), 40);
        y.mend(0, 2, 2);
        due("40 still", y.count(3), 40);
        for (int i = 39; i >= 0; i--) {
            due("undone", y.undo(), i);
        }
        due("the first is gone", y.of(0, 2), 51);
        fortyOfMany();
    }

    /** 45 changes, whose of ten swords and which of two numbers by no short turn: the first five are gone, all in all. */
    private static void fortyOfMany() {
        SwordAttic x = SwordEdges.full();
        int[][][] behind = new int[46][][];
        behind[0] = numbersOf(x);
        for (int i = 1; i <= 45; i++) {
            x.mend(i * i % 10, 2 + i * i / 7 % 2, 50 + i);
            behind[i] = numbersOf(x);
        }
        for (int i = 44; i >= 5; i--) {
            due("undone", x.undo(), i - 5);
            same(x, behind[i]);
        }
        due("no more", x.undo(), STATE);
        for (int i = 6; i <= 45; i++) {
            due("done again", x.redo(), 45 - i);
            same(x, behind[i]);
        }
    }

    private static void same(SwordAttic x, int[][] want) {
        for (int s = 0; s < want.length; s++) {
            for (int what = 0; what < want[s].length; what++) {
                due("number " + what + " of " + s, x.of(s, what), want[s][what]);
            }
        }
    }

    private static void deedsAreNone() {
        Edge.ofTerms("deeds are none (MIND, HELD, HOUR, the CANDLE by them, too).");
        SwordAttic x = Check.attic(0, 4);
        x.hour(5);
        x.telling(0, 9);
        x.touch(0);
        x.hold(0, 1);
        due("none", x.count(3), 0);
        due("none", x.undo(), STATE);
        due("HELD stays", x.of(0, 4), 1);
        due("HOUR stays", x.of(0, 5), 1);
        due("the CANDLE stays", x.of(0, 7), 5);
        x.mend(0, 3, 40);
        x.mend(0, 4, 0);
        x.mend(0, 5, 8);
        x.mend(0, 7, 2);
        x.hour(9);
        x.hold(0, 1);
        due("the CANDLE over a deed", x.undo(), 3);
        due("as it was ahead of the change", x.of(0, 7), 5);
        due("HOUR over a deed", x.undo(), 2);
        due("as it was ahead of the change", x.of(0, 5), 1);
        due("HELD", x.undo(), 1);
        due("HELD", x.of(0, 4), 1);
        int mind = x.of(0, 3);
        x.touch(0);
        due("15 more", x.of(0, 3), mind + 15);
        due("MIND over a deed", x.undo(), 0);
        due("as it was ahead of the change", x.of(0, 3), 15 + 2);
        due("what LED tells stays", x.led(0), 2);
        led(x, 2, 1, 2, 1, 0);
    }

    private static void undoBounds() {
        Edge.of(30, "UNDONE: how many may still be. STATE: none.");
        SwordAttic x = Check.attic(0, 4);
        due("none", x.undo(), STATE);
        x.mend(0, 1, 1);
        x.mend(0, 1, 2);
        due("one is left", x.undo(), 1);
        due("none is left", x.undo(), 0);
        due("none", x.undo(), STATE);
        due("it stays", x.of(0, 1), 4);
        due("all may be done again still", x.redo(), 1);
    }

    private static void redoBounds() {
        Edge.of(31, "DONE AGAIN: how many may still be. STATE: none.");
        SwordAttic x = Check.attic(0, 4);
        due("none", x.redo(), STATE);
        x.mend(0, 1, 1);
        due("none", x.redo(), STATE);
        x.mend(0, 1, 2);
        x.undo();
        x.undo();
        due("one is left", x.redo(), 1);
        due("none is left", x.redo(), 0);
        due("none", x.redo(), STATE);
        due("it stays", x.of(0, 1), 2);
        due("both may be undone still", x.undo(), 1);
        due("of a refused one too", x.mend(0, 0, 12), BAD);
        due("in no other cot", x.of(1, 8), NOT);
    }
}

/** Edges of THE LAW and THE TAPE, and of promises 6 to 8. */
final class LawEdges {
    private static final int BAD = SwordAttic.BAD, FULL = SwordAttic.FULL, VOID = SwordAttic.VOID;
    /** 2 to the 31st: it wraps to the least int. */
    private static final String LEAST = "(4096*4096*128)";

    private LawEdges() {
    }

    private static void due(String call, long got, long want) {
        Check.due(call, got, want);
    }

    private static void gives(String text, int want) {
        LawTest.gives(text, want);
    }

    private static void fault(String text, int place) {
        LawTest.fault(text, place);
    }

    static void test() {
        longest();
        lines();
        whatCounts();
        joined();
        compared();
        numbers();
        operands();
        blanks();
        names();
        open();
        wraps();
        divided();
        ones();
        faults();
        heldWithin();
        withoutText();
        feed();
        law();
        grows();
    }

    private static String times(String text, int n) {
        return text.repeat(n);
    }

    private static void longest() {
        Edge.ofTerms("THE LAW is a TEXT by THE TAPE (at most 120 bytes)");
        gives(times("0+", 59) + "12", 12);
        gives(times("0+", 59) + "5", 5);
        gives(times("0?1;", 29) + "0-17", -17);
        SwordAttic x = Check.attic(3, 7);
        for (int i = 0; i < 120; i++) {
            due("feed", x.feed(i < 118 ? (i % 2 == 0 ? '0' : '+') : '1'), i + 1);
        }
        due("the 121st does not come", x.feed('+'), FULL);
        due("the text stands without it", x.law(), 1);
        due("11", x.grows(0), 11);
    }

    private static void lines() {
        Edge.ofTerms("LINES, one or more, parted by ; .");
        fault("", 0);
        fault(";", 0);
        gives("3", 3);
        gives("3;4", 3);
        gives(times("0?1;", 29) + "9", 9);
        gives(times("3;", 59) + "4", 3);
        fault("3;", 2);
        fault("3;;4", 2);
        fault(";3", 0);
        fault(times("3;", 60), 120);
    }

    private static void whatCounts() {
        Edge.ofTerms("LINE: E, or E ? E (what counts if the first is not 0).",
            "The first LINE without a first E, or whose first E is not 0, counts; none: 0.");
        gives("1?8", 8);
        gives("0?8", 0);
        gives("-1?8", 8);
        gives(LEAST + "?8", 8);
        gives("0?8;0?9", 0);
        gives("0?8;0?9;6", 6);
        gives("0?8;2?9;6", 9);
        gives("0?8;6;2?9", 6);
        gives("0;6", 0);
        gives("1?0;6", 0);
        fault("1?", 2);
        fault("?1", 0);
        fault("1?2?3", 3);
        fault("1?;2", 2);
        fault("(1?2)", 2);
        gives("0?1;1?2", 2);
    }

    private static void joined() {
        Edge.ofTerms("E = A { | A }. A = B { & B }.", "S = P { + P, - P }. P = O { * O, / O, % O }.");
        gives("0|0|0", 0);
        gives("0|0|7", 1);
        gives("1&2&3", 1);
        gives("1&2&0", 0);
        gives("1|1&0", 1);
        gives("0&0|1", 1);
        gives("20-5-4", 11);
        gives("20-5+4", 19);
        gives("2+3*4-1", 13);
        gives("40/4/5", 2);
        gives("40/4*2", 20);
        gives("17%10%4", 3);
        gives("2*7%5", 4);
        String[] signs = {"|", "&", "+", "-", "*", "/", "%"};
        for (String sign : signs) {
            fault("1" + sign, 2);
            fault("1" + sign + ")", 2);
            fault("1" + sign + ";1", 2);
            fault("(1" + sign + ")", 3);
        }
        String[] noFirst = {"|", "&", "+", "*", "/", "%", "<", "=", ">"};
        for (String sign : noFirst) {
            fault(sign + "1", 0);
            fault("1" + sign + sign + "1", 2);
        }
    }

    private static void compared() {
        Edge.ofTerms("B = S, or S < S, S = S, S > S.");
        gives("1<2", 1);
        gives("2<2", 0);
        gives("3<2", 0);
        gives("1=2", 0);
        gives("2=2", 1);
        gives("1>2", 0);
        gives("2>2", 0);
        gives("3>2", 1);
        gives("1+1=3-1", 1);
        gives("1<2&2<3", 1);
        gives("3<2|2<3", 1);
        gives("(1<2)<3", 1);
        String[] signs = {"<", "=", ">"};
        for (String a : signs) {
            fault("1" + a, 2);
            for (String b : signs) {
                fault("1" + a + "2" + b + "3", 3);
            }
        }
        gives("1<2?3<4", 1);
    }

    private static void numbers() {
        Edge.ofTerms("O = a number (1 to 4 digits)");
        gives("0", 0);
        gives("9", 9);
        gives("0000", 0);
        gives("0009", 9);
        gives("9999-9990", 9);
        gives("1000=999+1", 1);
        fault("00000", 4);
        fault("99999", 4);
        fault("1+12345", 6);
        fault("12345+1", 4);
        gives("1234=1234", 1);
    }

    private static void operands() {
        Edge.ofTerms("a NAME, ! O, - O, ( E ).");
        gives("!0", 1);
        gives("-9", -9);
        gives("(9)", 9);
        gives("-(9)", -9);
        gives("!(9)", 0);
        gives("-d*2", -14);
        gives("!d+5", 5);
        fault("!", 1);
        fault("-", 1);
        fault("(", 1);
        fault("()", 1);
        fault(")", 0);
        fault("(9", 2);
        fault("9)", 1);
        fault("(9))", 3);
        fault("9(9)", 1);
        fault("(9)9", 3);
        fault("9!", 1);
        fault("dd", 1);
        fault("d9", 1);
        fault("9d", 1);
        fault("(9)(9)", 3);
        fault("(9;9)", 2);
        fault("(9?9)", 2);
    }

    private static void blanks() {
        Edge.ofTerms("No blanks.");
        int[] blanks = {' ', '\t', '\n', '\r', 0, 160};
        for (int b : blanks) {
            fault((char) b + "1", 0);
            fault("1" + (char) b, 1);
            fault("1" + (char) b + "+2", 1);
            fault("1+" + (char) b + "2", 2);
            fault("(" + (char) b + "2)", 1);
            fault("" + (char) b, 0);
        }
    }

    private static void names() {
        Edge.ofTerms("NAMES: d DID, y YEARS, m MIND, b how many that are AWAKE are BESIDE it, c 1, if the CANDLE is at its COT, "
            + "else 0, t HOUR.");
        SwordAttic x = Check.attic(1, 9, 0, 0, 2, 0, 7, 0, 8, 0);
        named(x, "d", 9, 1, 9);
        named(x, "d", 0, 1, 0);
        named(x, "y-90", 9, 2, 99);
        named(x, "y", 0, 2, 0);
        named(x, "m-90", 9, 3, 99);
        named(x, "m", 0, 3, 0);
        due("law", Check.law(x, "b"), 1);
        due("three are beside it", x.grows(0), 3);
        for (int s = 1; s < 4; s++) {
            x.mend(s, 3, 10);
            due("asleep: " + s, x.grows(0), 3 - s);
        }
        due("8 is awake, and not beside it", x.of(4, 3), 20);
        named(x, "c", 0, 7, 0);
        named(x, "c", 1, 7, 1);
        named(x, "c", 0, 7, 7);
        named(x, "t", 0, 5, 0);
        named(x, "t", 11, 5, 11);
        String none = "aezDYMBCT_xs";
        for (int i = 0; i < none.length(); i++) {
            fault("1+" + none.charAt(i), 2);
        }
    }

    /** Sword 0 under a law, once its number has been mended. */
    private static void named(SwordAttic x, String text, int want, int what, int v) {
        due("law", Check.law(x, text), 1);
        x.mend(0, what, v);
        due(text + " with " + v, x.grows(0), want);
    }

    private static void open() {
        Edge.ofTerms("At most 6 of ( ! - ahead of an O are open at once.");
        String[] openers = {"(", "!", "-"};
        for (String a : openers) {
            for (String b : openers) {
                String six = times(a + b, 3);
                String closing = times(")", six.replaceAll("[^(]", "").length());
                SwordAttic x = Check.attic(3, 7);
                due("six: " + six, Check.law(x, six + "5" + closing), 1);
                for (String seventh : openers) {
                    fault(six + seventh + "5" + closing, 6);
                    fault("1+" + six + seventh + "5" + closing, 8);
                }
            }
        }
        gives("((((((1))))))+((((((1))))))+------1", 3);
        gives("((((-1-(-1)))))", 0);
        fault("(((((-1-(-1))))))", 9);
        gives("(((((!0)))))+1", 2);
        gives("5-------1", 4);
        // in each E anew
        gives("!!!!!!1?------5", 5);
        gives("((((((0))))))?1;((((((1))))))?((((((6))))))", 6);
        gives("------0?1;------7", 7);
        fault("1?-------5", 8);
        fault("1?1;-------5", 10);
        fault("((((((1)+(-1))))))", 10);
        fault("(((((1+(-1))))))", 8);
        gives("((((1+(-1)))))", 0);
    }

    private static void wraps() {
        Edge.ofTerms("Ints that wrap");
        gives(LEAST + "<0", 1);
        gives(LEAST + "-1>0", 1);
        gives(LEAST + "-1+1=" + LEAST, 1);
        gives("-" + LEAST + "=" + LEAST, 1);
        gives(LEAST + "*2", 0);
        gives("9999*9999*9999%10", 9999 * 9999 * 9999 % 10);
        gives(LEAST, -20);
        gives(LEAST + "-1", 20);
        gives(LEAST + "*-1=" + LEAST, 1);
    }

    private static void divided() {
        Edge.ofTerms("/ and % toward 0, by 0 they give 0");
        gives("7/2", 3);
        gives("-7/2", -3);
        gives("7/-2", -3);
        gives("-7/-2", 3);
        gives("1/2", 0);
        gives("-1/2", 0);
        gives("7%4", 3);
        gives("-7%4", -3);
        gives("7%-4", 3);
        gives("-7%-4", -3);
        gives("7/0", 0);
        gives("-7/0", 0);
        gives("0/0", 0);
        gives("7%0", 0);
        gives("0%0", 0);
        gives("5+7/(d-7)", 5);
        gives("5+7%(d-7)", 5);
        gives(LEAST + "/-1=" + LEAST, 1);
        gives(LEAST + "%-1", 0);
    }

    private static void ones() {
        Edge.ofTerms("| & < = > ! give 1, 0; all is worked out.");
        gives("7|0", 1);
        gives("0|-7", 1);
        gives("0|0", 0);
        gives("7&9", 1);
        gives("-7&-9", 1);
        gives("7&0", 0);
        gives("0&7", 0);
        gives("!7", 0);
        gives("!-7", 0);
        gives("!0", 1);
        gives("!!9", 1);
        gives("(3<9)*5", 5);
        gives("(9=9)*5", 5);
        gives("(9>3)*5", 5);
        gives("1|7/0", 1);
        gives("0&7%0", 0);
        gives("1?4;7/0", 4);
    }

    private static void faults() {
        Edge.ofTerms("FAULT: the place (from 0) of the first byte with which no TEXT goes on; the length, if it ends too early.");
        fault("", 0);
        fault("x", 0);
        fault((char) 0 + "", 0);
        fault((char) 255 + "", 0);
        fault("d" + (char) 255, 1);
        fault("d+", 2);
        fault("d+;x", 2);
        fault("xx", 0);
        fault("d;x;(", 2);
        fault("(d+1", 4);
        fault(times("1+", 59) + "1x", 119);
        fault(times("1+", 60), 120);
        fault(times("1+", 58) + "(1", 118);
        fault(times("d;", 59) + "1?", 120);
        fault("x" + times("1", 119), 0);
    }

    private static void heldWithin() {
        Edge.ofTerms("It gives by how much MIND grows in an hour (held within -20 .. 20).");
        gives("19", 19);
        gives("20", 20);
        gives("21", 20);
        gives("9999", 20);
        gives("-19", -19);
        gives("-20", -20);
        gives("-21", -20);
        gives("-9999", -20);
        SwordAttic x = Check.under("21", 3);
        x.hour(0);
        due("20 more behind an hour", x.of(0, 3), 40);
        due("law", Check.law(x, "-21"), 1);
        x.hour(0);
        due("20 less behind an hour", x.of(0, 3), 20);
    }

    private static void withoutText() {
        Edge.ofTerms("Without a text: d, and 3 times b, less y by 20 (cut), less 8 times c, less 2.");
        SwordAttic x = Check.attic(7, 0, 1, 0, 6, 0, 8, 0);
        Check.minds(x, 20, 0, 0, 0);
        x.mend(0, 2, 0);
        due("least of all", x.grows(0), -2);
        for (int d = 0; d <= 9; d++) {
            x.mend(0, 1, d);
            due("d " + d, x.grows(0), d - 2);
        }
        for (int s = 1; s <= 3; s++) {
            x.mend(s, 3, 11);
            due("b " + s, x.grows(0), 9 + 3 * s - 2);
        }
        int[] years = {0, 19, 20, 39, 40, 59, 60, 79, 80, 99};
        for (int y : years) {
            x.mend(0, 2, y);
            due("y " + y, x.grows(0), 9 + 9 - y / 20 - 2);
        }
        x.mend(0, 7, 7);
        due("c", x.grows(0), 9 + 9 - 4 - 8 - 2);
        Check.minds(x, 20, 0, 0, 0);
        x.mend(0, 1, 0);
        due("the least", x.grows(0), -14);
    }

    private static void feed() {
        Edge.of(6, "A byte (0 .. 255) comes to THE TAPE: how many it has. BAD, FULL (120).");
        SwordAttic x = new SwordAttic();
        int[] none = {-1, 256, Integer.MIN_VALUE, Integer.MAX_VALUE};
        for (int letter : none) {
            due("letter " + letter, x.feed(letter), BAD);
        }
        due("none came", x.count(2), 0);
        due("0", x.feed(0), 1);
        due("255", x.feed(255), 2);
        for (int i = 3; i <= 120; i++) {
            due("feed", x.feed(128), i);
        }
        due("FULL", x.feed(0), FULL);
        due("FULL", x.feed(255), FULL);
        for (int letter : none) {
            due("BAD ahead of FULL: " + letter, x.feed(letter), BAD);
        }
        due("120", x.count(2), 120);
    }

    private static void law() {
        Edge.of(7, "THE TAPE becomes THE LAW: 1; -100 less its FAULT; THE TAPE is empty then.");
        SwordAttic x = Check.attic(3, 7);
        due("an empty tape", x.law(), -100);
        due("without a text still", x.grows(0), 3);
        due("a law", Check.law(x, "5"), 1);
        due("empty then", x.count(2), 0);
        due("an empty tape", x.law(), -100);
        due("the law ahead of it stays", x.grows(0), 5);
        due("a fault at 0", Check.law(x, "x9"), -100);
        due("empty then", x.count(2), 0);
        due("a fault at 2", Check.law(x, "9+x"), -102);
        due("empty then", x.count(2), 0);
        due("a fault at the end", Check.law(x, "9+"), -102);
        due("the law ahead of them stays", x.grows(0), 5);
        due("a fault at 119", Check.law(x, times("9+", 59) + "9x"), -219);
        due("a fault at 120", Check.law(x, times("9+", 60)), -220);
        due("room again", x.feed('6'), 1);
        due("the next law", x.law(), 1);
        due("by it", x.grows(0), 6);
        due("a shorter one", Check.law(x, "0?1;1?2"), 1);
        due("by it", x.grows(0), 2);
        due("a shorter one", Check.law(x, "0?1"), 1);
        due("nothing of those ahead is left", x.grows(0), 0);
    }

    private static void grows() {
        Edge.of(8, "By how much MIND of a SWORD would grow by THE LAW now. VOID: BAD.");
        SwordAttic x = new SwordAttic();
        int[] none = {0, -1, 9, 10, Integer.MIN_VALUE, Integer.MAX_VALUE};
        for (int s : none) {
            due("no sword: " + s, x.grows(s), VOID);
        }
        SwordAttic full = SwordEdges.full();
        due("the first", full.grows(0), 0 + 6 - 2 - 2);
        due("the last", full.grows(9), 9 + 6 - 2 - 2);
        due("the eleventh", full.grows(10), VOID);
        due("-1", full.grows(-1), VOID);
        full.hold(9, 1);
        due("of one HELD the same", full.grows(9), 9 + 6 - 2 - 2);
        full.mend(9, 3, 99);
        due("of MIND 99 the same", full.grows(9), 9 + 6 - 2 - 2);
        due("it stays", full.of(9, 3), 99);
    }
}

/** Promise 7 and the law's text: what it gives, and where its faults are. */
public final class LawTest {
    public static void main(String[] args) {
        values();
        names();
        lines();
        faults();
        openAtOnce();
        longest();
        faultKeepsTheLaw();
        Check.end("LawTest");
    }

    /** What the text gives for one sword of DID 7 in COT 3 (the candle elsewhere). */
    static void gives(String text, int want) {
        SwordAttic x = Check.attic(3, 7);
        Check.due("7: law " + text, Check.law(x, text), 1);
        Check.due("8: grows by " + text, x.grows(0), want);
    }

    static void fault(String text, int place) {
        SwordAttic x = Check.attic(3, 7);
        Check.due("7: fault of " + text, Check.law(x, text), -100 - place);
        Check.due("7: tape behind " + text, x.count(2), 0);
        Check.due("8: no text behind " + text, x.grows(0), 7 - 2 - 2);
    }

    private static void values() {
        gives("5", 5);
        gives("0019", 19);
        gives("9999", 20);
        gives("0-9999", -20);
        gives("2+3*4", 14);
        gives("(2+3)*4", 20);
        gives("20-5-3", 12);
        gives("18/4/2", 2);
        gives("-7/2", -3);
        gives("-7%4", -3);
        gives("7%-4", 3);
        gives("7/0", 0);
        gives("7%0", 0);
        gives("1+7/0", 1);
        gives("--5", 5);
        gives("3--5", 8);
        gives("-3+5", 2);
        gives("!0", 1);
        gives("!7", 0);
        gives("!!7", 1);
        gives("!-7", 0);
        gives("-!0", -1);
        gives("!0*5", 5);
        gives("2|4", 1);
        gives("0|0", 0);
        gives("2&4", 1);
        gives("2&0", 0);
        gives("1|0&0", 1);
        gives("(1|0)&0", 0);
        gives("3<4", 1);
        gives("4<4", 0);
        gives("4=4", 1);
        gives("4=5", 0);
        gives("5>4", 1);
        gives("4>4", 0);
        gives("2+2=4", 1);
        gives("1&2<1", 0);
        gives("(2<1)=0", 1);
        gives("2<3&3<4|0", 1);
        // 9999 * 9999 * 9999 wraps; its value as an int is then made small
        gives("9999*9999*9999%10", 9999 * 9999 * 9999 % 10);
        // the least int by -1 wraps to itself
        gives("(-4096*4096*128)/-1%10", -8);
        gives("(-4096*4096*128)%-1", 0);
    }

    private static void names() {
        SwordAttic x = Check.attic(3, 7, 2, 1, 9, 1, 4, 1);
        x.mend(0, 2, 13);
        x.mend(0, 3, 17);
        x.mend(1, 3, 10);
        x.mend(0, 5, 8);
        String[] texts = {"d", "y", "m", "b", "c", "t"};
        int[] want = {7, 13, 17, 2, 0, 8};
        for (int i = 0; i < texts.length; i++) {
            Check.due("7: " + texts[i], Check.law(x, texts[i]), 1);
            Check.due("8: " + texts[i], x.grows(0), want[i]);
        }
        Check.law(x, "c");
        x.mend(0, 7, 3);
        Check.due("8: candle", x.grows(0), 1);
        Check.due("8: no candle", x.grows(1), 0);
    }

    private static void lines() {
        gives("0?5;6", 6);
        gives("1?5;6", 5);
        gives("5?0;6", 0);
        gives("0;6", 0);
        gives("0?5", 0);
        gives("0?5;0?6", 0);
        gives("d<3?1;d<9?2;3", 2);
        gives("d=7&!c?-4;20", -4);
        gives("-1?3", 3);
    }

    private static void faults() {
        fault("", 0);
        fault("d+", 2);
        fault("+d", 0);
        fault("d;", 2);
        fault(";d", 0);
        fault("d;;d", 2);
        fault("d?", 2);
        fault("d?1?2", 3);
        fault("?1", 0);
        fault("(d?1)", 2);
        fault("(d;1)", 2);
        fault("(d", 2);
        fault("()", 1);
        fault("d)", 1);
        fault("(d))", 3);
        fault("d d", 1);
        fault(" d", 0);
        fault("dd", 1);
        fault("d1", 1);
        fault("1d", 1);
        fault("12345", 4);
        fault("d<d<d", 3);
        fault("d=d>d", 3);
        fault("d<", 2);
        fault("d<|d", 2);
        fault("d+|d", 2);
        fault("d*|d", 2);
        fault("d|&d", 2);
        fault("!", 1);
        fault("d!d", 1);
        fault("d=!", 3);
        fault("d==d", 2);
        fault("D", 0);
        fault("x", 0);
        fault("d+x;;", 2);
        fault("d&d?y|", 6);
        fault("d" + (char) 0, 1);
        fault((char) 255 + "d", 0);
        fault("((d)", 4);
        fault("d;e", 2);
    }

    private static void openAtOnce() {
        gives("------7", 7);
        gives("!!!!!!7", 1);
        gives("((((((7))))))", 7);
        gives("-(-(-(7)))", -7);
        gives("-(-(7))+-(-(7))+------3", 17);
        gives("7-------3", 4);
        gives("(7)+((((((3))))))", 10);
        fault("-------7", 6);
        fault("!!!!!!!7", 6);
        fault("(((((((7)))))))", 6);
        fault("-(-(-(-7)))", 6);
        fault("!(!(!((7))))", 6);
        fault("7--------3", 8);
        fault("((((((-7))))))", 6);
        fault("((((((7)+(3)))))))", 17);
    }

    private static void longest() {
        StringBuilder text = new StringBuilder("1");
        for (int i = 0; i < 59; i++) {
            text.append(i % 4 == 0 ? "+1" : "-0");
        }
        gives(text + "0", 16);
        fault(text + "+", 120);
        StringBuilder lines = new StringBuilder();
        for (int i = 0; i < 29; i++) {
            lines.append("0?1;");
        }
        gives(lines + "9-2", 7);
        gives(lines + "0?17", 0);
        fault(lines + "0?1;", 120);
    }

    private static void faultKeepsTheLaw() {
        SwordAttic x = Check.attic(3, 7);
        Check.due("7: law", Check.law(x, "d+4"), 1);
        Check.due("8: by it", x.grows(0), 11);
        Check.due("7: fault", Check.law(x, "2+"), -102);
        Check.due("8: still by it", x.grows(0), 11);
        Check.due("7: empty", x.law(), -100);
        Check.due("8: still by it", x.grows(0), 11);
    }
}

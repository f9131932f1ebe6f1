/** What the tests share: due answers, rows of bytes, laws as texts. */
final class Check {
    private static int asked = 0;
    private static int wrong = 0;
    private static String about = "";

    private Check() {
    }

    /** What the answers from here on are about; it is told with a wrong one. */
    static void about(String what) {
        about = what;
    }

    static int asked() {
        return asked;
    }

    static void due(String call, long got, long want) {
        asked++;
        if (got != want) {
            wrong++;
            if (wrong <= 40) {
                System.out.println(about + call + " answered " + got + ", due is " + want);
            }
        }
    }

    /** Ends the test: exit code 1 if an answer was not the one that is due. */
    static void end(String test) {
        System.out.println(test + ": " + asked + " answers, " + wrong + " not as due");
        if (wrong != 0 || asked == 0) {
            System.exit(1);
        }
    }

    static void bytes(SwordAttic x, int shelf, int... values) {
        due("row of bytes", x.row(shelf, 0, values.length), 1);
        for (int i = 0; i < values.length; i++) {
            due("put", x.put(shelf, i, values[i]), 1);
        }
    }

    static int law(SwordAttic x, String text) {
        for (int i = 0; i < text.length(); i++) {
            due("feed " + text, x.feed(text.charAt(i)), i + 1);
        }
        return x.law();
    }

    /** An attic with swords of these DIDS in these COTS. */
    static SwordAttic attic(int... cotsAndDids) {
        SwordAttic x = new SwordAttic();
        for (int i = 0; i + 1 < cotsAndDids.length; i += 2) {
            due("sword", x.sword(cotsAndDids[i], cotsAndDids[i + 1]), i / 2);
        }
        return x;
    }

    /** An attic with a law, and swords of DID 0 in these COTS. */
    static SwordAttic under(String text, int... cots) {
        SwordAttic x = new SwordAttic();
        for (int i = 0; i < cots.length; i++) {
            due("sword", x.sword(cots[i], 0), i);
        }
        due("law " + text, law(x, text), 1);
        return x;
    }

    /** Lays the minds of swords 0, 1, 2 .. */
    static void minds(SwordAttic x, int... minds) {
        for (int i = 0; i < minds.length; i++) {
            x.mend(i, 3, minds[i]);
            due("MIND of " + i, x.of(i, 3), minds[i]);
        }
    }
}

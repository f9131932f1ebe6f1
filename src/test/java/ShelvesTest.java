/** Promises 32 to 41: acts, shelves. */
public final class ShelvesTest {
    private static void due(String call, long got, long want) {
        Check.due(call, got, want);
    }

    public static void main(String[] args) {
        body();
        acts();
        keepAndTaken();
        row();
        sorts();
        shift();
        count();
        Check.end("ShelvesTest");
    }

    private static void body() {
        SwordAttic x = new SwordAttic();
        due("32: BAD", x.body(8), SwordAttic.BAD);
        due("32: BAD", x.body(-1), SwordAttic.BAD);
        for (int i = 0; i < 50; i++) {
            due("32: body", x.body(i % 8), i);
        }
        due("32: BAD first", x.body(8), SwordAttic.BAD);
        due("32: FULL", x.body(0), SwordAttic.FULL);
        due("41: bodies", x.count(4), 50);
    }

    private static void traced(SwordAttic x, int... want) {
        due("41: ran", x.count(5), want.length);
        for (int i = 0; i < want.length; i++) {
            due("34: trace(" + i + ")", x.trace(i), want[i]);
        }
        due("34: behind", x.trace(want.length), SwordAttic.BAD);
        due("34: -1", x.trace(-1), SwordAttic.BAD);
    }

    /** The body of each number is of the KIND of that number. */
    private static void acts() {
        SwordAttic x = new SwordAttic();
        due("33: no such", x.act(0, 0, 5), 0);
        traced(x);
        for (int kind = 0; kind < 8; kind++) {
            x.body(kind);
        }
        due("33: BLADE wakes", x.act(0, 0, 5), 5);
        traced(x, 1);
        due("33: BLADE tells", x.act(0, 3, 5), 10 - 1);
        traced(x, 2, 10, 1, 11);
        due("33: RAPIER hushes", x.act(1, 1, 5), (5 + 1 + 3) * 2);
        traced(x, 10, 20, 1);
        due("33: DIRK hushes", x.act(2, 1, 5), -(5 + 2) * 2);
        traced(x, 30, 10, 1);
        due("33: DIRK cries", x.act(2, 2, 5), 7);
        traced(x, 11);
        due("33: COT hushes", x.act(3, 1, 5), -(6 + 3) * 2);
        traced(x, 41, 30, 10, 1);
        due("33: COT cries", x.act(3, 2, 5), (5 ^ 3) * 3);
        traced(x, 40, 11);
        due("33: NASEBY cries", x.act(4, 2, 5), (5 ^ 4) - (2 + 4 + 3));
        traced(x, 50, 11, 20, 1);
        due("33: NASEBY tells", x.act(4, 3, 5), (5 + 4 + 3) * 2 - ((1 ^ 4) - (2 + 4 + 3)));
        traced(x, 2, 10, 20, 1, 50, 11, 20, 1);
        due("33: AUNT tells", x.act(5, 3, 7), -(8 + 5) * 2 - (1 ^ 5) * 3 ^ 5);
        traced(x, 60, 2, 41, 30, 10, 1, 40, 11);
        due("33: CANDLE wakes", x.act(6, 0, 5), (5 + 6) * 2);
        traced(x, 70, 1);
        due("33: CANDLE hushes", x.act(6, 1, 5), (5 + 6) * 4);
        traced(x, 10, 70, 1);
        int cries2 = (2 ^ 7) - (2 + 7 + 3);
        due("33: RUG hushes", x.act(7, 1, 5), (5 + 7 + 3) * 2 + cries2);
        traced(x, 80, 10, 20, 1, 50, 11, 20, 1);
        due("33: RUG tells", x.act(7, 3, 5), (5 + 7 + 3) * 2 + cries2 - ((1 ^ 7) - (2 + 7 + 3)) - 1);
        traced(x, 81, 2, 80, 10, 20, 1, 50, 11, 20, 1, 50, 11, 20, 1);
        due("33: it wraps", x.act(1, 0, Integer.MAX_VALUE), Integer.MIN_VALUE + 3);
        traced(x, 20, 1);
        due("33: no such act", x.act(0, 4, 5), 0);
        traced(x);
        x.act(0, 0, 5);
        due("33: no such act", x.act(0, -1, 5), 0);
        traced(x);
        x.act(0, 0, 5);
        due("33: no such blade", x.act(8, 0, 5), 0);
        traced(x);
        x.act(0, 0, 5);
        due("33: no such blade", x.act(-1, 0, 5), 0);
        traced(x);
    }

    private static void keepAndTaken() {
        SwordAttic x = new SwordAttic();
        due("35: no such", x.keep(0, 0), SwordAttic.BAD);
        for (int kind = 7; kind >= 0; kind--) {
            x.body(kind);
        }
        due("35: BAD", x.keep(6, 0), SwordAttic.BAD);
        due("35: BAD", x.keep(-1, 0), SwordAttic.BAD);
        due("35: BAD", x.keep(0, 8), SwordAttic.BAD);
        due("35: BAD", x.keep(0, -2), SwordAttic.BAD);
        due("40: nothing", x.taken(0, 0), -11);
        due("40: BAD", x.taken(6, 0), SwordAttic.BAD);
        due("40: BAD", x.taken(-1, 0), SwordAttic.BAD);
        due("40: BAD", x.taken(0, 8), SwordAttic.BAD);
        due("40: BAD", x.taken(0, -1), SwordAttic.BAD);
        // for each KIND the bits of those that it is, or is under
        int[] under = {1, 3, 5, 13, 19, 45, 65, 147};
        for (int kind = 0; kind < 8; kind++) {
            due("35: keep", x.keep(0, 7 - kind), 1);
            for (int k = 0; k < 8; k++) {
                due("40: " + kind + " for " + k, x.taken(0, k), (under[kind] & 1 << k) != 0 ? kind : -12);
            }
        }
        due("37: a blade", x.put(0, 0, 1), -12);
        due("38: a blade", x.element(0, 0), Long.MIN_VALUE);
        due("36: row", x.row(0, 2, 1), 1);
        due("40: a row", x.taken(0, 0), -12);
        due("35: nothing", x.keep(0, -1), 1);
        due("40: nothing", x.taken(0, 0), -11);
        due("37: nothing", x.put(0, 0, 1), -11);
    }

    private static void row() {
        SwordAttic x = new SwordAttic();
        due("36: BAD", x.row(6, 0, 1), SwordAttic.BAD);
        due("36: BAD", x.row(-1, 0, 1), SwordAttic.BAD);
        due("36: BAD", x.row(0, 5, 1), SwordAttic.BAD);
        due("36: BAD", x.row(0, -1, 1), SwordAttic.BAD);
        due("36: BAD", x.row(0, 0, 61), SwordAttic.BAD);
        due("36: -14", x.row(0, 0, -1), -14);
        due("36: -14", x.row(0, 0, Integer.MIN_VALUE), -14);
        due("36: BAD first", x.row(0, 5, -1), SwordAttic.BAD);
        due("36: nothing yet", x.put(0, 0, 0), -11);
        due("36: row", x.row(0, 2, 60), 1);
        due("37: put", x.put(0, 59, 7), 1);
        due("37: -13", x.put(0, 60, 7), -13);
        due("37: -13", x.put(0, -1, 7), -13);
        due("37: BAD", x.put(6, 0, 7), SwordAttic.BAD);
        due("37: BAD", x.put(-1, 0, 7), SwordAttic.BAD);
        due("38: 7", x.element(0, 59), 7);
        due("38: 0 at first", x.element(0, 58), 0);
        due("38: -13", x.element(0, 60), Long.MIN_VALUE);
        due("38: -13", x.element(0, -1), Long.MIN_VALUE);
        due("38: -11", x.element(1, 0), Long.MIN_VALUE);
        due("38: BAD", x.element(6, 0), Long.MIN_VALUE);
        due("38: BAD", x.element(-1, 0), Long.MIN_VALUE);
        due("36: -14 changes nothing", x.row(0, 2, -1), -14);
        due("38: still 7", x.element(0, 59), 7);
        due("36: anew", x.row(0, 2, 60), 1);
        due("38: 0", x.element(0, 59), 0);
        due("36: none", x.row(0, 2, 0), 1);
        due("37: -13", x.put(0, 0, 0), -13);
    }

    private static void sorts() {
        SwordAttic x = new SwordAttic();
        for (int sort = 0; sort < 5; sort++) {
            x.row(sort, sort, 2);
        }
        long v = 0x123456789ABCDEF0L;
        long[] want = {(byte) 0xF0, (short) 0xDEF0, 0x9ABCDEF0, v, 1};
        for (int sort = 0; sort < 5; sort++) {
            due("37: put", x.put(sort, 1, v), 1);
            due("38: sort " + sort, x.element(sort, 1), want[sort]);
            due("37: put", x.put(sort, 1, -1), 1);
            due("38: -1", x.element(sort, 1), sort == 4 ? 1 : -1);
            due("37: put", x.put(sort, 1, 0), 1);
            due("38: 0", x.element(sort, 1), 0);
        }
        x.put(4, 0, 256);
        due("38: not 0", x.element(4, 0), 1);
        x.put(0, 0, 128);
        due("38: a sign", x.element(0, 0), -128);
        x.put(3, 0, Long.MIN_VALUE);
        due("38: the least long", x.element(3, 0), Long.MIN_VALUE);
    }

    private static void shift() {
        SwordAttic x = new SwordAttic();
        x.body(0);
        x.row(0, 2, 5);
        x.row(1, 2, 3);
        x.row(2, 3, 5);
        x.keep(3, 0);
        for (int i = 0; i < 5; i++) {
            x.put(0, i, i + 1);
        }
        due("39: BAD", x.shift(6, 0, 0, 0, 0), SwordAttic.BAD);
        due("39: BAD", x.shift(0, 0, -1, 0, 0), SwordAttic.BAD);
        due("39: BAD first", x.shift(4, 0, 6, 0, 0), SwordAttic.BAD);
        due("39: -11", x.shift(4, 0, 0, 0, 0), -11);
        due("39: -11", x.shift(0, 0, 4, 0, 0), -11);
        due("39: -11 ahead of -12", x.shift(3, 0, 4, 0, 0), -11);
        due("39: -12", x.shift(3, 0, 0, 0, 0), -12);
        due("39: -12", x.shift(0, 0, 3, 0, 0), -12);
        due("39: unlike", x.shift(0, 0, 2, 0, 0), -12);
        due("39: unlike ahead of -13", x.shift(0, 9, 2, 0, 1), -12);
        int[][] bad = {{-1, 0, 1}, {0, -1, 1}, {0, 0, -1}, {5, 0, 1}, {0, 3, 1}, {6, 0, 0}, {0, 4, 0}, {3, 0, 3}, {0, 0, 4},
            {Integer.MAX_VALUE, 0, 1}, {0, Integer.MAX_VALUE, Integer.MAX_VALUE}, {1, 1, Integer.MAX_VALUE}};
        for (int[] b : bad) {
            due("39: -13 " + b[0] + " " + b[1] + " " + b[2], x.shift(0, b[0], 1, b[1], b[2]), -13);
        }
        due("39: none", x.shift(0, 5, 1, 3, 0), 0);
        due("39: two", x.shift(0, 2, 1, 1, 2), 2);
        due("38: 0", x.element(1, 0), 0);
        due("38: 3", x.element(1, 1), 3);
        due("38: 4", x.element(1, 2), 4);
        due("39: up", x.shift(0, 0, 0, 1, 4), 4);
        int[] up = {1, 1, 2, 3, 4};
        for (int i = 0; i < 5; i++) {
            due("38: up", x.element(0, i), up[i]);
        }
        due("39: down", x.shift(0, 2, 0, 0, 3), 3);
        int[] down = {2, 3, 4, 3, 4};
        for (int i = 0; i < 5; i++) {
            due("38: down", x.element(0, i), down[i]);
        }
    }

    private static void count() {
        SwordAttic x = Check.attic(0, 0, 1, 0);
        due("41: BAD", x.count(6), SwordAttic.BAD);
        due("41: BAD", x.count(-1), SwordAttic.BAD);
        due("41: swords", x.count(0), 2);
        due("41: awake", x.count(1), 2);
        x.mend(0, 3, 10);
        due("41: awake", x.count(1), 1);
        due("41: changes", x.count(3), 1);
        x.feed(1);
        due("41: tape", x.count(2), 1);
        x.body(1);
        due("41: bodies", x.count(4), 1);
        x.act(0, 1, 1);
        due("41: ran", x.count(5), 3);
    }
}

import java.lang.reflect.InvocationTargetException;
import java.lang.reflect.Method;
import java.util.ArrayList;
import java.util.List;
import java.util.function.Supplier;

/**
 * What is refused changes nothing, nor does what is only thought: of two attics that have lived through
 * the same, one is asked besides; then both must tell the same of all that they have.
 */
final class RefusalEdges {
    private static final int BAD = SwordAttic.BAD, NOT = SwordAttic.NOT, FULL = SwordAttic.FULL, STATE = SwordAttic.STATE;
    private static final int VOID = SwordAttic.VOID;
    private static final long NO_ELEMENT = Long.MIN_VALUE;
    private static final int LEAST = Integer.MIN_VALUE, GREATEST = Integer.MAX_VALUE;

    private RefusalEdges() {
    }

    static void test() {
        Edge.ofTerms("What is answered so changes nothing.");
        swords();
        thoughts();
        cried();
        deeds();
        shelves();
        ofFull();
        ofNew();
        Edge.ofTerms("IN THOUGHT");
        questions();
    }

    // ---- attics

    /** Four swords and something of everything, so that there is much to be spoiled. */
    private static SwordAttic rich() {
        SwordAttic x = Check.attic(0, 9, 1, 3, 6, 5, 11, 7);
        for (int kind = 0; kind < 8; kind++) {
            x.body(kind);
        }
        Check.bytes(x, 0, 0, 1, 6);
        Check.bytes(x, 1, 20, 18, 16);
        x.row(2, 1, 2);
        x.put(2, 1, 77);
        x.keep(3, 7);
        x.row(5, 3, 2);
        x.put(5, 0, Long.MAX_VALUE);
        Check.law(x, "d-c*9+b");
        x.hour(1);
        x.telling(0, 9);
        x.touch(6);
        x.hold(2, 1);
        x.image();
        x.hour(3);
        x.mend(0, 0, 2);
        x.mend(1, 3, 44);
        x.mend(2, 2, 9);
        x.mend(0, 6, 15);
        x.mend(0, 7, 8);
        x.undo();
        x.undo();
        x.act(7, 3, 5);
        x.feed('2');
        x.feed('+');
        x.feed('d');
        return x;
    }

    /** Ten swords, 50 bodies, 120 bytes, 40 changes. */
    private static SwordAttic full() {
        SwordAttic x = SwordEdges.full();
        for (int i = 0; i < 50; i++) {
            x.body(i % 8);
        }
        for (int i = 0; i < 120; i++) {
            x.feed(i % 2 == 0 ? 'd' : i == 119 ? '1' : '+');
        }
        for (int i = 0; i < 40; i++) {
            x.mend(i % 10, 2, 51 + i);
        }
        x.act(7, 1, 5);
        return x;
    }

    // ---- what an attic has

    /** All that can be asked, then all that comes to light by law(), redo(), undo(), back(), sword() and body(). */
    private static List<Long> told(SwordAttic x) {
        List<Long> all = new ArrayList<>();
        asked(x, all);
        for (int shelf = 0; shelf < 6; shelf++) {
            all.add((long) x.taken(shelf, 0));
            for (int i = 0; i < 4; i++) {
                all.add(x.element(shelf, i));
            }
        }
        for (int i = 0; i < 15; i++) {
            all.add((long) x.trace(i));
        }
        all.add((long) x.later(0, 3, 0));
        all.add((long) x.law());
        all.add((long) x.grows(1));
        all.add((long) x.redo());
        all.add((long) x.redo());
        all.add((long) x.redo());
        for (int i = 0; i < 3; i++) {
            all.add((long) x.undo());
        }
        asked(x, all);
        all.add((long) x.back());
        asked(x, all);
        all.add((long) x.sword(10, 1));
        all.add((long) x.body(1));
        return all;
    }

    private static void asked(SwordAttic x, List<Long> all) {
        for (int what = 0; what < 6; what++) {
            all.add((long) x.count(what));
            all.add((long) x.led(what));
        }
        for (int what = 5; what < 8; what++) {
            all.add((long) x.of(0, what));
        }
        for (int cot = 0; cot < 12; cot++) {
            all.add((long) x.of(cot, 8));
        }
        for (int s = 0; s < x.count(0) && s < 4; s++) {
            for (int what = 0; what < 5; what++) {
                all.add((long) x.of(s, what));
            }
            all.add((long) x.grows(s));
        }
    }

    // ---- asking one of two

    private static void refused(Supplier<SwordAttic> attic, long want, String call, long... given) {
        SwordAttic x = attic.get();
        Check.due(call + " " + java.util.Arrays.toString(given), answer(x, call, given), want);
        unchanged(x, attic.get(), call + " " + java.util.Arrays.toString(given));
    }

    private static void unchanged(SwordAttic x, SwordAttic twin, String call) {
        List<Long> got = told(x);
        List<Long> want = told(twin);
        Check.due(call + ": how much is told", got.size(), want.size());
        for (int i = 0; i < want.size() && i < got.size(); i++) {
            Check.due(call + ": what is told, " + i, got.get(i), want.get(i));
        }
    }

    private static long answer(SwordAttic x, String call, long... given) {
        for (Method m : SwordAttic.class.getDeclaredMethods()) {
            if (m.getName().equals(call)) {
                return answer(x, m, given);
            }
        }
        throw new IllegalArgumentException("no such call: " + call);
    }

    private static long answer(SwordAttic x, Method m, long... given) {
        Object[] numbers = new Object[given.length];
        for (int i = 0; i < given.length; i++) {
            boolean isLong = m.getParameterTypes()[i] == long.class;
            numbers[i] = isLong ? (Object) given[i] : (Object) Math.toIntExact(given[i]);
        }
        try {
            return ((Number) m.invoke(x, numbers)).longValue();
        } catch (IllegalAccessException e) {
            throw new IllegalStateException(e);
        } catch (InvocationTargetException e) {
            throw new IllegalStateException(m.getName() + " threw", e.getCause());
        }
    }

    private static void richRefuses(long want, String call, long... given) {
        refused(RefusalEdges::rich, want, call, given);
    }

    // ---- what is refused

    private static void swords() {
        richRefuses(BAD, "sword", 12, 0);
        richRefuses(BAD, "sword", -1, 0);
        richRefuses(BAD, "sword", 1, 0);
        richRefuses(BAD, "sword", 3, 10);
        richRefuses(BAD, "sword", 3, -1);
        richRefuses(BAD, "swords", 6, 0, 1);
        richRefuses(BAD, "swords", 0, 0, 0);
        richRefuses(BAD, "swords", 0, 0, 11);
        richRefuses(-12, "swords", 2, 0, 1);
        richRefuses(-12, "swords", 3, 0, 1);
        richRefuses(0, "swords", 4, 0, 1);
        richRefuses(0, "swords", 1, 0, 1);
        richRefuses(0, "swords", 0, 1, 1);
        for (int what = 0; what < 8; what++) {
            richRefuses(BAD, "mend", 0, what, -1);
            richRefuses(BAD, "mend", 0, what, 100);
            richRefuses(BAD, "mend", 4, what, 1);
            richRefuses(BAD, "mend", -1, what, 1);
        }
        richRefuses(BAD, "mend", 0, 0, 1);
        richRefuses(BAD, "mend", 1, 5, 1);
        richRefuses(BAD, "mend", 1, 7, 1);
        richRefuses(BAD, "mend", 0, 8, 1);
        richRefuses(BAD, "of", 4, 0);
        richRefuses(BAD, "of", 0, 9);
        richRefuses(BAD, "of", 12, 8);
        richRefuses(NOT, "of", 10, 8);
        richRefuses(BAD, "feed", 256);
        richRefuses(BAD, "feed", -1);
        richRefuses(VOID, "grows", 4);
        richRefuses(VOID, "grows", -1);
    }

    private static void thoughts() {
        richRefuses(BAD, "later", 6, 0, 0);
        richRefuses(BAD, "later", 0, 25, 0);
        richRefuses(BAD, "later", 0, 0, 4);
        richRefuses(-11, "later", 4, 0, 0);
        richRefuses(-12, "later", 3, 0, 0);
        richRefuses(BAD, "awake", 0, 0, 2);
        richRefuses(-11, "awake", 4, 0, 0);
        richRefuses(-12, "awake", 2, 0, 0);
        richRefuses(BAD, "cries", 0, 0, 100);
        richRefuses(NOT, "cries", 0, 1, 99);
        richRefuses(-11, "cries", 4, 0, 0);
        richRefuses(-12, "cries", 2, 0, 0);
        richRefuses(BAD, "asleep", 6);
        richRefuses(-11, "asleep", 4);
        richRefuses(-12, "asleep", 3);
        richRefuses(NOT, "asleep", 0);
        richRefuses(BAD, "bestRound", 4, -1);
        richRefuses(BAD, "bestRound", 2, 2);
        richRefuses(BAD, "told", 2);
        richRefuses(NOT, "told", 0);
        richRefuses(BAD, "woken", 12, 0);
        richRefuses(BAD, "woken", 0, 2);
        richRefuses(BAD, "walk", 3);
    }

    private static void cried() {
        richRefuses(BAD, "judge", 60, 0);
        richRefuses(BAD, "judge", 6, 0);
        richRefuses(BAD, "judge", 1, 4);
        richRefuses(-11, "judge", 4, 0);
        richRefuses(-12, "judge", 34, 0);
        richRefuses(BAD, "fits", 1, 40, 0);
        richRefuses(BAD, "fits", 1, 4, 0);
        richRefuses(BAD, "fits", 1, 0, 4);
        richRefuses(NOT, "fits", 1, 0, 1);
        richRefuses(NOT, "fits", 1, 0, 3);
        richRefuses(-11, "fits", 41, 0, 0);
        richRefuses(-12, "fits", 2, 0, 0);
        richRefuses(BAD, "dealt", 2);
        richRefuses(BAD, "lines", 19);
        richRefuses(BAD, "lines", -3);
        richRefuses(BAD, "byTurns", 0, 0);
        richRefuses(BAD, "byTurns", 5, 0);
        richRefuses(BAD, "byTurns", 1, 2);
        richRefuses(BAD, "drawn", 1, 10113, -1);
        richRefuses(BAD, "drawn", 1, 10100, 4);
    }

    private static void deeds() {
        richRefuses(BAD, "hour", 12);
        richRefuses(BAD, "hour", -1);
        richRefuses(BAD, "telling", 12, 1);
        richRefuses(BAD, "telling", 1, 10);
        richRefuses(BAD, "telling", 1, -1);
        richRefuses(STATE, "telling", 10, 9);
        richRefuses(BAD, "touch", 12);
        richRefuses(BAD, "touch", -1);
        richRefuses(STATE, "touch", 10);
        richRefuses(BAD, "hold", 4, 1);
        richRefuses(BAD, "hold", 1, 2);
        richRefuses(BAD, "led", 5);
    }

    private static void shelves() {
        richRefuses(BAD, "body", 8);
        richRefuses(BAD, "body", -1);
        richRefuses(BAD, "trace", 14);
        richRefuses(BAD, "trace", -1);
        for (int shelf = 0; shelf < 6; shelf++) {
            richRefuses(BAD, "keep", shelf, 8);
            richRefuses(BAD, "keep", shelf, -2);
            richRefuses(BAD, "row", shelf, 5, 1);
            richRefuses(BAD, "row", shelf, -1, 1);
            richRefuses(BAD, "row", shelf, 0, 61);
            richRefuses(-14, "row", shelf, 0, -1);
            richRefuses(-14, "row", shelf, 0, LEAST);
            richRefuses(BAD, "taken", shelf, 8);
            richRefuses(NO_ELEMENT, "element", shelf, 3);
            richRefuses(BAD, "shift", shelf, 0, 6, 0, 1);
            richRefuses(BAD, "shift", -1, 0, shelf, 0, 1);
            richRefuses(-11, "shift", 4, 0, shelf, 0, 1);
            richRefuses(-11, "shift", shelf, 0, 4, 0, 1);
        }
        richRefuses(BAD, "keep", 6, 0);
        richRefuses(BAD, "keep", -1, -1);
        richRefuses(BAD, "row", 6, 0, 1);
        richRefuses(BAD, "put", 6, 0, 9);
        richRefuses(-11, "put", 4, 0, 9);
        richRefuses(-12, "put", 3, 0, 9);
        richRefuses(-13, "put", 0, 3, 9);
        richRefuses(-13, "put", 0, -1, 9);
        richRefuses(-13, "put", 0, GREATEST, 9);
        richRefuses(-12, "shift", 3, 0, 0, 0, 1);
        richRefuses(-12, "shift", 0, 0, 3, 0, 1);
        richRefuses(-12, "shift", 0, 0, 2, 0, 1);
        richRefuses(-13, "shift", 0, 1, 1, 0, 3);
        richRefuses(-13, "shift", 0, 0, 1, 1, 3);
        richRefuses(-13, "shift", 0, 0, 0, 1, 3);
        richRefuses(-13, "shift", 1, 0, 0, 0, -1);
        richRefuses(-11, "taken", 4, 0);
        richRefuses(-12, "taken", 3, 2);
        richRefuses(BAD, "count", 6);
    }

    private static void ofFull() {
        refused(RefusalEdges::full, FULL, "sword", 0, 0);
        refused(RefusalEdges::full, BAD, "sword", 1, 0);
        refused(RefusalEdges::full, FULL, "feed", 'd');
        refused(RefusalEdges::full, BAD, "feed", 256);
        refused(RefusalEdges::full, FULL, "body", 0);
        refused(RefusalEdges::full, BAD, "body", 8);
        refused(RefusalEdges::full, STATE, "redo");
        refused(RefusalEdges::full, STATE, "back");
        refused(RefusalEdges::full, STATE, "walk", 2);
        refused(RefusalEdges::full, BAD, "mend", 10, 0, 0);
    }

    private static void ofNew() {
        refused(SwordAttic::new, STATE, "undo");
        refused(SwordAttic::new, STATE, "redo");
        refused(SwordAttic::new, STATE, "back");
        refused(SwordAttic::new, NOT, "walk", 0);
        refused(SwordAttic::new, NOT, "walk", 1);
        refused(SwordAttic::new, STATE, "telling", 0, 0);
        refused(SwordAttic::new, STATE, "touch", 0);
        refused(SwordAttic::new, BAD, "hold", 0, 0);
        refused(SwordAttic::new, BAD, "mend", 0, 3, 1);
        refused(SwordAttic::new, BAD, "keep", 0, 0);
        refused(SwordAttic::new, -14, "row", 0, 0, -1);
        refused(SwordAttic::new, 0, "swords", 0, 0, 1);
        refused(SwordAttic::new, VOID, "grows", 0);
    }

    // ---- what is only thought

    private static void questions() {
        question("of", 0, 3);
        question("of", 2, 8);
        question("grows", 0);
        question("later", 0, 3, 0);
        question("awake", 0, 3, 0);
        question("awake", 0, 3, 1);
        question("cries", 0, 1, 45);
        question("asleep", 0);
        for (int k = -2; k < 3; k++) {
            question("bestRound", 3, k);
        }
        question("told", 0);
        question("told", 1);
        for (int cot = 0; cot < 12; cot++) {
            question("woken", cot, cot % 2);
        }
        for (int what = 0; what < 3; what++) {
            question("walk", what);
        }
        question("judge", 1, 0);
        for (int what = 0; what < 4; what++) {
            question("fits", 1, 1, what);
        }
        question("dealt", 0);
        question("dealt", 1);
        for (int x = -2; x <= 18; x += 10) {
            question("lines", x);
        }
        for (int n = 1; n <= 4; n++) {
            question("byTurns", n, 0);
            question("byTurns", n, 1);
        }
        question("drawn", 77, 302412, -1);
        question("drawn", 77, 302412, 2);
        question("led", 0);
        question("trace", 13);
        question("element", 5, 0);
        question("taken", 3, 4);
        question("count", 1);
    }

    private static void question(String call, long... given) {
        SwordAttic x = rich();
        long first = answer(x, call, given);
        Check.due(call + ", asked twice", answer(x, call, given), first);
        unchanged(x, rich(), call);
    }
}

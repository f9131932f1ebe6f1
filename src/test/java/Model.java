import java.util.ArrayDeque;
import java.util.ArrayList;
import java.util.Arrays;
import java.util.Deque;
import java.util.HashMap;
import java.util.List;
import java.util.Map;

/**
 * The document told a second time, as plainly and slowly as can be: every search tries all, the
 * law is split anew at each use, blades are Java classes. ModelTest holds the program against it.
 */
final class Model {
    static final int BAD = -1, NOT = -2, FULL = -3, STATE = -5, VOID = -2000000000;

    /** One sword: COT, DID, YEARS, MIND, HELD. */
    static final class World {
        final List<int[]> swords = new ArrayList<>();
        int hour = 0;
        int sleeps = 10;
        int candle = 0;
        String law = null;

        World copy() {
            World w = new World();
            for (int[] s : swords) {
                w.swords.add(s.clone());
            }
            w.hour = hour;
            w.sleeps = sleeps;
            w.candle = candle;
            w.law = law;
            return w;
        }

        int at(int cot) {
            for (int i = 0; i < swords.size(); i++) {
                if (swords.get(i)[0] == cot) {
                    return i;
                }
            }
            return -1;
        }

        boolean awake(int s) {
            return swords.get(s)[3] > sleeps;
        }

        int bits() {
            int b = 0;
            for (int i = 0; i < swords.size(); i++) {
                if (awake(i)) {
                    b += 1 << i;
                }
            }
            return b;
        }

        int howMany() {
            return Integer.bitCount(bits());
        }

        int all() {
            return swords.stream().mapToInt(s -> s[3]).sum();
        }

        int grows(int s, int candleCot) {
            int[] sword = swords.get(s);
            int b = 0;
            for (int cot : besides(sword[0])) {
                if (at(cot) >= 0 && awake(at(cot))) {
                    b++;
                }
            }
            int c = sword[0] == candleCot ? 1 : 0;
            int g;
            if (law == null) {
                g = sword[1] + 3 * b - sword[2] / 20 - 8 * c - 2;
            } else {
                Map<Character, Integer> names = new HashMap<>();
                names.put('d', sword[1]);
                names.put('y', sword[2]);
                names.put('m', sword[3]);
                names.put('b', b);
                names.put('c', c);
                names.put('t', hour);
                g = LawText.value(law, names);
            }
            return Math.max(-20, Math.min(20, g));
        }

        World behindHour(int candleCot) {
            World w = copy();
            for (int i = 0; i < swords.size(); i++) {
                int[] s = w.swords.get(i);
                s[3] = clamp(s[3] + grows(i, candleCot) - (s[4] == 1 ? 3 : 0));
            }
            w.hour = hour == 11 ? 0 : hour + 1;
            if (candleCot >= 0) {
                w.candle = candleCot;
            }
            return w;
        }

        World behindTelling(int cot, int n) {
            World w = copy();
            if (at(cot) >= 0) {
                int[] s = w.swords.get(at(cot));
                s[3] = s[1] <= n ? clamp(s[3] - 2 * n) : clamp(s[3] + n);
            }
            return w;
        }

        /** Touches in the order of a chain; those touched are added to the list. */
        World behindTouch(int cot, List<Integer> touched) {
            World w = copy();
            w.touchDeep(cot, touched);
            return w;
        }

        private void touchDeep(int cot, List<Integer> touched) {
            int s = at(cot);
            if (s < 0 || touched.contains(s)) {
                return;
            }
            touched.add(s);
            boolean was = awake(s);
            swords.get(s)[3] = clamp(swords.get(s)[3] + 15);
            if (!was && awake(s)) {
                for (int c : besides(cot)) {
                    touchDeep(c, touched);
                }
            }
        }
    }

    static int clamp(int v) {
        return v < 0 ? 0 : v > 99 ? 99 : v;
    }

    static List<Integer> besides(int cot) {
        List<Integer> list = new ArrayList<>();
        for (int c = 0; c < 12; c++) {
            if (Math.abs(c / 6 - cot / 6) + Math.abs(c % 6 - cot % 6) == 1) {
                list.add(c);
            }
        }
        return list;
    }

    /** Steps by going from COT to COT BESIDE, as a flood. */
    static int steps(int from, int to) {
        int[] dist = new int[12];
        Arrays.fill(dist, -1);
        dist[from] = 0;
        Deque<Integer> flood = new ArrayDeque<>(List.of(from));
        while (!flood.isEmpty()) {
            int c = flood.remove();
            for (int b : besides(c)) {
                if (dist[b] < 0) {
                    dist[b] = dist[c] + 1;
                    flood.add(b);
                }
            }
        }
        return dist[to];
    }

    /** What a shelf holds: null, a Blade or a Row. */
    static final class Row {
        int sort;
        long[] e;
    }

    private World w = new World();
    private StringBuilder tape = new StringBuilder();
    private final Object[] shelves = new Object[6];
    private final List<Kinds.Blade> bodies = new ArrayList<>();
    private final List<Integer> trace = new ArrayList<>();
    private int[] led = new int[5];
    private World imageWorld = null;
    private int[] imageLed = null;
    private final List<int[]> undone = new ArrayList<>();
    private final List<int[]> changes = new ArrayList<>();

    private static boolean in(int v, int a, int b) {
        return a <= v && v <= b;
    }

    private boolean isSword(int s) {
        return in(s, 0, w.swords.size() - 1);
    }

    private boolean free(int cot) {
        return in(cot, 0, 11) && w.at(cot) < 0;
    }

    public int sword(int cot, int did) {
        if (!free(cot) || !in(did, 0, 9)) {
            return BAD;
        }
        if (w.swords.size() == 10) {
            return FULL;
        }
        w.swords.add(new int[] {cot, did, 50, 20, 0});
        return w.swords.size() - 1;
    }

    public int swords(int shelf, int i, int n) {
        if (!in(shelf, 0, 5) || !in(n, 1, 10)) {
            return BAD;
        }
        if (shelves[shelf] == null) {
            return 0;
        }
        if (!isBytes(shelf)) {
            return -12;
        }
        long[] e = ((Row) shelves[shelf]).e;
        for (int k = 0; k < n; k++) {
            long at = i + 3L * k;
            if (at < 0 || at + 2 >= e.length) {
                return k;
            }
            int cot = (int) e[(int) at];
            int did = (int) e[(int) at + 1];
            int years = (int) e[(int) at + 2];
            if (!in(years, 0, 99) || sword(cot, did) < 0) {
                return k;
            }
            w.swords.get(w.swords.size() - 1)[2] = years;
        }
        return n;
    }

    private boolean isBytes(int shelf) {
        return shelves[shelf] instanceof Row r && r.sort == 0;
    }

    private boolean numbered(int number, int what) {
        return in(what, 0, 4) && isSword(number) || in(what, 5, 7) && number == 0;
    }

    public int mend(int number, int what, int v) {
        int[] top = {11, 9, 99, 99, 1, 11, 50, 11};
        if (!numbered(number, what) || !in(v, 0, top[what])) {
            return BAD;
        }
        int was = of(number, what);
        if (was == v) {
            return was;
        }
        if (what == 0 && !free(v)) {
            return BAD;
        }
        set(number, what, v);
        undone.clear();
        changes.add(new int[] {number, what, was, v});
        if (changes.size() > 40) {
            changes.remove(0);
        }
        return was;
    }

    private void set(int number, int what, int v) {
        if (what < 5) {
            w.swords.get(number)[what] = v;
        } else if (what == 5) {
            w.hour = v;
        } else if (what == 6) {
            w.sleeps = v;
        } else {
            w.candle = v;
        }
    }

    public int of(int number, int what) {
        if (what == 8) {
            return !in(number, 0, 11) ? BAD : w.at(number) < 0 ? NOT : w.at(number);
        }
        if (!numbered(number, what)) {
            return BAD;
        }
        return what < 5 ? w.swords.get(number)[what] : what == 5 ? w.hour : what == 6 ? w.sleeps : w.candle;
    }

    public int feed(int letter) {
        if (!in(letter, 0, 255)) {
            return BAD;
        }
        if (tape.length() == 120) {
            return FULL;
        }
        tape.append((char) letter);
        return tape.length();
    }

    public int law() {
        String text = tape.toString();
        tape = new StringBuilder();
        int fault = LawText.fault(text);
        if (fault >= 0) {
            return -100 - fault;
        }
        w.law = text;
        return 1;
    }

    public int grows(int sword) {
        return isSword(sword) ? w.grows(sword, w.candle) : VOID;
    }

    /** The worlds behind 0, 1, 2 .. hours of a ROUND. */
    private static List<World> worlds(World from, Row round) {
        List<World> list = new ArrayList<>(List.of(from));
        for (int i = 0; i < round.e.length && i < 24 && round.e[i] >= 0 && round.e[i] < 12; i++) {
            list.add(list.get(i).behindHour((int) round.e[i]));
        }
        return list;
    }

    private int refused(int shelf) {
        return shelves[shelf] == null ? -11 : isBytes(shelf) ? 0 : -12;
    }

    private World later(int shelf, int n) {
        List<World> list = worlds(w, (Row) shelves[shelf]);
        return list.get(Math.min(n, list.size() - 1));
    }

    public int later(int shelf, int n, int sword) {
        if (!in(shelf, 0, 5) || !in(n, 0, 24) || !isSword(sword)) {
            return BAD;
        }
        return refused(shelf) != 0 ? refused(shelf) : later(shelf, n).swords.get(sword)[3];
    }

    public int awake(int shelf, int n, int what) {
        if (!in(shelf, 0, 5) || !in(n, 0, 24) || !in(what, 0, 1)) {
            return BAD;
        }
        if (refused(shelf) != 0) {
            return refused(shelf);
        }
        return what == 0 ? later(shelf, n).bits() : later(shelf, n).all();
    }

    public int cries(int shelf, int sword, int x) {
        if (!in(shelf, 0, 5) || !isSword(sword) || !in(x, 0, 99)) {
            return BAD;
        }
        if (refused(shelf) != 0) {
            return refused(shelf);
        }
        List<World> list = worlds(w, (Row) shelves[shelf]);
        for (int i = 0; i < list.size(); i++) {
            if (list.get(i).swords.get(sword)[3] >= x) {
                return i;
            }
        }
        return NOT;
    }

    public int asleep(int shelf) {
        if (!in(shelf, 0, 5)) {
            return BAD;
        }
        if (refused(shelf) != 0) {
            return refused(shelf);
        }
        List<World> list = worlds(w, (Row) shelves[shelf]);
        for (int i = 0; i < list.size(); i++) {
            if (list.get(i).bits() == 0) {
                return i;
            }
        }
        return NOT;
    }

    public int bestRound(int n, int k) {
        if (!in(n, 0, 3) || !in(k, -2, n - 1)) {
            return BAD;
        }
        World best = null;
        int[] bestCots = null;
        int ways = (int) Math.pow(12, n);
        for (int way = 0; way < ways; way++) {
            int[] cots = new int[n];
            int rest = way;
            for (int i = n - 1; i >= 0; i--) {
                cots[i] = rest % 12;
                rest /= 12;
            }
            World then = w;
            for (int c : cots) {
                then = then.behindHour(c);
            }
            if (best == null || less(then, best)) {
                best = then;
                bestCots = cots;
            }
        }
        return k == -1 ? best.howMany() : k == -2 ? best.all() : bestCots[k];
    }

    private static boolean less(World a, World b) {
        return a.howMany() < b.howMany() || a.howMany() == b.howMany() && a.all() < b.all();
    }

    public int told(int what) {
        if (!in(what, 0, 1)) {
            return BAD;
        }
        int fewest = 100;
        int least = 0;
        for (int whom = 0; whom < 1 << w.swords.size(); whom++) {
            World then = w;
            for (int s = 0; s < w.swords.size(); s++) {
                if ((whom & 1 << s) != 0) {
                    then = toldBest(then, s);
                }
            }
            int n = Integer.bitCount(whom);
            if (then.bits() == 0 && (n < fewest || n == fewest && then.all() < least)) {
                fewest = n;
                least = then.all();
            }
        }
        return fewest == 100 ? NOT : what == 0 ? fewest : least;
    }

    private static World toldBest(World from, int sword) {
        World best = null;
        for (int n = 0; n <= 9; n++) {
            World then = from.behindTelling(from.swords.get(sword)[0], n);
            if (best == null || then.all() < best.all()) {
                best = then;
            }
        }
        return best;
    }

    public int woken(int cot, int what) {
        if (!in(cot, 0, 11) || !in(what, 0, 1)) {
            return BAD;
        }
        List<Integer> touched = new ArrayList<>();
        World then = w.behindTouch(cot, touched);
        return what == 0 ? then.bits() & ~w.bits() : touched.size();
    }

    public int walk(int what) {
        if (!in(what, 0, 2)) {
            return BAD;
        }
        List<Integer> cots = new ArrayList<>();
        for (int c = 0; c < 12; c++) {
            if (w.at(c) >= 0 && w.awake(w.at(c))) {
                cots.add(c);
            }
        }
        if (what == 2) {
            return cots.size() > 6 ? STATE : byAll(w.candle, cots);
        }
        if (cots.isEmpty()) {
            return NOT;
        }
        int best = cots.get(0);
        for (int c : cots) {
            best = steps(w.candle, c) < steps(w.candle, best) ? c : best;
        }
        return what == 0 ? steps(w.candle, best) : best;
    }

    private static int byAll(int from, List<Integer> cots) {
        if (cots.isEmpty()) {
            return 0;
        }
        int best = 1000;
        for (int c : cots) {
            List<Integer> rest = new ArrayList<>(cots);
            rest.remove((Integer) c);
            best = Math.min(best, steps(from, c) + byAll(c, rest));
        }
        return best;
    }

    private boolean areShelves(int ss) {
        return in(ss, 0, 59) && in(ss / 10, 0, 5) && in(ss % 10, 0, 5);
    }

    private int judged(World from, int ss, int sword) {
        List<World> list = worlds(from, (Row) shelves[ss / 10]);
        long[] cried = ((Row) shelves[ss % 10]).e;
        for (int i = 0; i < cried.length; i++) {
            if (i >= list.size() || list.get(i).swords.get(sword)[3] != cried[i]) {
                return i;
            }
        }
        return NOT;
    }

    private int refusedBoth(int ss) {
        return refused(ss / 10) != 0 ? refused(ss / 10) : refused(ss % 10);
    }

    public int judge(int ss, int sword) {
        if (!areShelves(ss) || !isSword(sword)) {
            return BAD;
        }
        return refusedBoth(ss) != 0 ? refusedBoth(ss) : judged(w, ss, sword);
    }

    public int fits(int ss, int ab, int what) {
        if (!areShelves(ss) || !in(ab, 0, 99) || !isSword(ab / 10) || !isSword(ab % 10) || !in(what, 0, 3)) {
            return BAD;
        }
        if (refusedBoth(ss) != 0) {
            return refusedBoth(ss);
        }
        List<Integer> fit = new ArrayList<>();
        for (int v = 0; v < (what < 2 ? 10 : 100); v++) {
            World other = w.copy();
            other.swords.get(ab % 10)[what < 2 ? 1 : 2] = v;
            if (judged(other, ss, ab / 10) == NOT) {
                fit.add(v);
            }
        }
        return what % 2 == 0 ? fit.size() : fit.isEmpty() ? NOT : fit.get(0);
    }

    public int dealt(int what) {
        if (!in(what, 0, 1)) {
            return BAD;
        }
        World best = w.behindHour(-1);
        int which = -9;
        for (int code = 0; code < 144; code++) {
            int a = code / 12;
            int b = code % 12;
            if (a >= b) {
                continue;
            }
            World then = w.copy();
            for (int[] s : then.swords) {
                s[0] = s[0] == a ? b : s[0] == b ? a : s[0];
            }
            then = then.behindHour(-1);
            if (less(then, best)) {
                best = then;
                which = code;
            }
        }
        return what == 0 ? best.howMany() : which;
    }

    public int lines(int x) {
        if (!in(x, -2, 18)) {
            return BAD;
        }
        int pairs = 0;
        int best = 0;
        int n = w.swords.size();
        for (int whom = 0; whom < 1 << n; whom++) {
            int cots = 0;
            boolean apart = true;
            for (int a = 0; a < n; a++) {
                for (int b = a + 1; b < n; b++) {
                    int[] s = w.swords.get(a);
                    int[] o = w.swords.get(b);
                    boolean both = (whom & 1 << a) != 0 && (whom & 1 << b) != 0;
                    if (both && besides(s[0]).contains(o[0])) {
                        apart = false;
                        pairs += Integer.bitCount(whom) == 2 && s[1] + o[1] >= x ? 1 : 0;
                    }
                }
                cots |= (whom & 1 << a) != 0 ? 1 << w.swords.get(a)[0] : 0;
            }
            int more = Integer.bitCount(cots) - Integer.bitCount(best);
            if (apart && (more > 0 || more == 0 && cots < best)) {
                best = cots;
            }
        }
        return x >= 0 ? pairs : x == -1 ? Integer.bitCount(best) : best;
    }

    public int byTurns(int n, int what) {
        if (!in(n, 1, 4) || !in(what, 0, 1)) {
            return BAD;
        }
        return turns(w, 0, n)[what];
    }

    private static int[] turns(World from, int turn, int n) {
        if (turn == n) {
            return new int[] {from.howMany(), 12};
        }
        boolean aunt = turn % 2 == 0;
        int[] best = null;
        for (int k = -1; k < 6; k++) {
            World then = from;
            if (k >= 0) {
                then = aunt ? from.behindTelling(k, 4) : from.behindTouch(6 + k, new ArrayList<>());
            }
            int value = turns(then, turn + 1, n)[0];
            if (best == null || (aunt ? value < best[0] : value > best[0])) {
                best = new int[] {value, k < 0 ? 12 : k};
            }
        }
        return best;
    }

    public int drawn(int seed, int nmt, int sword) {
        int n = nmt / 10000;
        int m = nmt % 10000 / 100;
        int t = nmt % 100;
        if (nmt < 0 || !in(n, 1, 30) || !in(m, 1, 24) || !in(t, 0, 12) || sword != -1 && !isSword(sword)) {
            return BAD;
        }
        int z = seed;
        int sum = 0;
        for (int night = 0; night < n; night++) {
            World then = w;
            for (int h = 0; h < m; h++) {
                z = (int) (z * 1103515245L + 12345L);
                long u = z & 0xFFFFFFFFL;
                if ((u >> 20) % 12 < t) {
                    then = then.behindTouch((int) ((u >> 16) % 12), new ArrayList<>());
                }
                then = then.behindHour((int) ((u >> 8) % 12));
            }
            sum += sword == -1 ? then.howMany() : then.swords.get(sword)[3];
        }
        return sum;
    }

    public int hour(int cot) {
        if (!in(cot, 0, 11)) {
            return BAD;
        }
        int before = w.bits();
        w = w.behindHour(cot);
        led[0]++;
        for (int s = 0; s < w.swords.size(); s++) {
            led[4] += w.awake(s) && (before & 1 << s) == 0 ? 1 : 0;
        }
        return w.howMany();
    }

    public int telling(int cot, int n) {
        if (!in(cot, 0, 11) || !in(n, 0, 9)) {
            return BAD;
        }
        if (w.at(cot) < 0) {
            return STATE;
        }
        w = w.behindTelling(cot, n);
        led[1]++;
        return w.swords.get(w.at(cot))[3];
    }

    public int touch(int cot) {
        if (!in(cot, 0, 11)) {
            return BAD;
        }
        if (w.at(cot) < 0) {
            return STATE;
        }
        int before = w.howMany();
        w = w.behindTouch(cot, new ArrayList<>());
        led[2]++;
        led[3] += w.howMany() - before;
        return w.howMany() - before;
    }

    public int hold(int sword, int how) {
        if (!isSword(sword) || !in(how, 0, 1)) {
            return BAD;
        }
        int was = w.swords.get(sword)[4];
        w.swords.get(sword)[4] = how;
        return was;
    }

    public int led(int what) {
        return in(what, 0, 4) ? led[what] : BAD;
    }

    public int image() {
        imageWorld = w.copy();
        imageLed = led.clone();
        return led[0];
    }

    public int back() {
        if (imageWorld == null) {
            return STATE;
        }
        for (int s = 0; s < imageWorld.swords.size(); s++) {
            w.swords.get(s)[3] = imageWorld.swords.get(s)[3];
            w.swords.get(s)[4] = imageWorld.swords.get(s)[4];
        }
        w.hour = imageWorld.hour;
        w.candle = imageWorld.candle;
        led = imageLed.clone();
        return led[0];
    }

    private void lay(int[] change, int v) {
        int there = change[1] == 0 ? w.at(v) : -1;
        if (there < 0 || there == change[0]) {
            set(change[0], change[1], v);
        }
    }

    public int undo() {
        if (changes.isEmpty()) {
            return STATE;
        }
        int[] change = changes.remove(changes.size() - 1);
        undone.add(change);
        lay(change, change[2]);
        return changes.size();
    }

    public int redo() {
        if (undone.isEmpty()) {
            return STATE;
        }
        int[] change = undone.remove(undone.size() - 1);
        changes.add(change);
        lay(change, change[3]);
        return undone.size();
    }

    public int body(int kind) {
        if (!in(kind, 0, 7)) {
            return BAD;
        }
        if (bodies.size() == 50) {
            return FULL;
        }
        bodies.add(Kinds.make(kind, bodies.size(), trace));
        return bodies.size() - 1;
    }

    public int act(int body, int act, int x) {
        trace.clear();
        if (!in(body, 0, bodies.size() - 1) || !in(act, 0, 3)) {
            return 0;
        }
        Kinds.Blade b = bodies.get(body);
        return act == 0 ? b.wakes(x) : act == 1 ? b.hushes(x) : act == 2 ? b.cries(x) : b.tells(x);
    }

    public int trace(int i) {
        return in(i, 0, Math.min(24, trace.size()) - 1) ? trace.get(i) : BAD;
    }

    public int keep(int shelf, int body) {
        if (!in(shelf, 0, 5) || !in(body, -1, bodies.size() - 1)) {
            return BAD;
        }
        shelves[shelf] = body < 0 ? null : bodies.get(body);
        return 1;
    }

    public int row(int shelf, int sort, int n) {
        if (!in(shelf, 0, 5) || !in(sort, 0, 4) || n > 60) {
            return BAD;
        }
        if (n < 0) {
            return -14;
        }
        Row r = new Row();
        r.sort = sort;
        r.e = new long[n];
        shelves[shelf] = r;
        return 1;
    }

    private int refusedAt(int shelf, int i) {
        if (!in(shelf, 0, 5)) {
            return BAD;
        }
        if (shelves[shelf] == null) {
            return -11;
        }
        if (!(shelves[shelf] instanceof Row r)) {
            return -12;
        }
        return in(i, 0, r.e.length - 1) ? 0 : -13;
    }

    public int put(int shelf, int i, long v) {
        if (refusedAt(shelf, i) != 0) {
            return refusedAt(shelf, i);
        }
        Row r = (Row) shelves[shelf];
        int[] spare = {56, 48, 32, 0};
        r.e[i] = r.sort == 4 ? Math.abs(Long.signum(v)) : v << spare[r.sort] >> spare[r.sort];
        return 1;
    }

    public long element(int shelf, int i) {
        return refusedAt(shelf, i) != 0 ? Long.MIN_VALUE : ((Row) shelves[shelf]).e[i];
    }

    public int shift(int shelf, int i, int other, int j, int n) {
        if (!in(shelf, 0, 5) || !in(other, 0, 5)) {
            return BAD;
        }
        if (shelves[shelf] == null || shelves[other] == null) {
            return -11;
        }
        if (!(shelves[shelf] instanceof Row a) || !(shelves[other] instanceof Row b) || a.sort != b.sort) {
            return -12;
        }
        try {
            System.arraycopy(a.e, i, b.e, j, n);
            return n;
        } catch (IndexOutOfBoundsException e) {
            return -13;
        }
    }

    public int taken(int shelf, int k) {
        if (!in(shelf, 0, 5) || !in(k, 0, 7)) {
            return BAD;
        }
        if (shelves[shelf] == null) {
            return -11;
        }
        Class<?> wanted = Kinds.make(k, 0, new ArrayList<>()).getClass();
        return wanted.isInstance(shelves[shelf]) ? ((Kinds.Blade) shelves[shelf]).kind() : -12;
    }

    public int count(int what) {
        int[] all = {w.swords.size(), w.howMany(), tape.length(), changes.size(), bodies.size(), trace.size()};
        return in(what, 0, 5) ? all[what] : BAD;
    }
}

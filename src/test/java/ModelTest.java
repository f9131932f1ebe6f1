import java.lang.reflect.Method;
import java.util.ArrayList;
import java.util.Arrays;
import java.util.Comparator;
import java.util.List;
import java.util.Random;

/** Random runs of all calls on the program and on Model: every answer must be the same. */
public final class ModelTest {
    private static final int[] EXTREMES = {
        -1, -2, -3, 6, 8, 9, 10, 11, 12, 13, 24, 25, 50, 59, 60, 61, 99, 100, 120, 255, 256,
        Integer.MAX_VALUE, Integer.MIN_VALUE, Integer.MAX_VALUE - 1};
    private static final String[] LAWS = {
        "d", "b*4-c*9-3", "d*2+b*4-c*9-y/15-m/10+t%3", "m>60?-12;t<4?3;d-b", "c?-9;b*6-4", "-y%7+b*b", "(t-5)*2",
        "!c*b*5-2", "m/9*-1+d", "d>4&b|c=0?6;-3", "0?1", "b=3?-20;b=2?-10;b=1?4;7", "y<20?9;y>60?-9;0", "m%5-2"};

    public static void main(String[] args) throws ReflectiveOperationException {
        Method[] calls = Arrays.stream(SwordAttic.class.getDeclaredMethods())
            .filter(m -> java.lang.reflect.Modifier.isPublic(m.getModifiers()))
            .sorted(Comparator.comparing(Method::getName)).toArray(Method[]::new);
        Check.due("methods of the face", calls.length, 40);
        int runs = args.length > 0 ? Integer.parseInt(args[0]) : 60;
        for (int seed = 0; seed < runs; seed++) {
            run(calls, new Random(seed), "run " + seed);
        }
        for (int seed = 0; seed < runs; seed++) {
            searches(new Random(seed + 1000000L), seed);
        }
        laws(new Random(4711), args.length > 0 ? 200 * runs : 6000);
        Check.end("ModelTest");
    }

    private static void run(Method[] calls, Random random, String name) throws ReflectiveOperationException {
        SwordAttic x = new SwordAttic();
        Model model = new Model();
        List<String> story = new ArrayList<>();
        int wildness = 1 + random.nextInt(25);
        prepare(x, model, random);
        for (int i = 0; i < 300; i++) {
            Method call = calls[random.nextInt(calls.length)];
            if (isDear(call.getName()) && random.nextInt(4) != 0) {
                continue;
            }
            Object[] given = numbers(call, random, wildness);
            Method twin = Model.class.getMethod(call.getName(), call.getParameterTypes());
            Number got = (Number) call.invoke(x, given);
            Number want = (Number) twin.invoke(model, given);
            String told = call.getName() + Arrays.toString(given);
            story.add(told + " = " + want);
            Check.due(name + ", call " + i + ": " + told, got.longValue(), want.longValue());
            if (got.longValue() != want.longValue()) {
                System.out.println("  behind " + String.join("; ", story.subList(Math.max(0, story.size() - 6), story.size())));
                return;
            }
            if (random.nextInt(40) == 0) {
                tell(x, model, LAWS[random.nextInt(LAWS.length)]);
            }
            if (random.nextInt(20) == 0) {
                cried(x, model, random);
            }
        }
    }

    /** The searches one after another, each in full. */
    private static void searches(Random random, int seed) {
        SwordAttic x = new SwordAttic();
        Model model = new Model();
        prepare(x, model, random);
        for (int what = 4; what < 8; what++) {
            int v = random.nextInt(12);
            Check.due("mend", x.mend(0, what, v), model.mend(0, what, v));
        }
        String run = "search " + seed + ": ";
        int hours = seed % 10 == 0 ? 3 : 2;
        for (int n = 0; n <= hours; n++) {
            for (int k = -2; k < n; k++) {
                Check.due(run + "bestRound " + n + " " + k, x.bestRound(n, k), model.bestRound(n, k));
            }
        }
        for (int n = 1; n <= 4; n++) {
            Check.due(run + "byTurns " + n, x.byTurns(n, 0), model.byTurns(n, 0));
            Check.due(run + "her first " + n, x.byTurns(n, 1), model.byTurns(n, 1));
        }
        for (int what = 0; what < 2; what++) {
            Check.due(run + "dealt " + what, x.dealt(what), model.dealt(what));
            Check.due(run + "told " + what, x.told(what), model.told(what));
            for (int cot = 0; cot < 12; cot++) {
                Check.due(run + "woken " + cot + " " + what, x.woken(cot, what), model.woken(cot, what));
            }
        }
        for (int what = 0; what < 3; what++) {
            Check.due(run + "walk " + what, x.walk(what), model.walk(what));
        }
        for (int of = -2; of <= 18; of += 4) {
            Check.due(run + "lines " + of, x.lines(of), model.lines(of));
            Check.due(run + "lines " + (of + 1), x.lines(of + 1), model.lines(of + 1));
        }
        for (int sword = -1; sword < 4; sword++) {
            int draw = random.nextInt();
            int nmt = 10000 * (1 + random.nextInt(30)) + 100 * (1 + random.nextInt(24)) + random.nextInt(13);
            Check.due(run + "drawn " + nmt, x.drawn(draw, nmt, sword), model.drawn(draw, nmt, sword));
        }
    }

    /** Model tries all, so that these take it long. */
    private static boolean isDear(String call) {
        return List.of("bestRound", "byTurns", "drawn", "dealt", "told", "lines", "fits").contains(call);
    }

    private static void prepare(SwordAttic x, Model model, Random random) {
        int swords = random.nextInt(11);
        for (int i = 0; i < swords; i++) {
            int cot = random.nextInt(12);
            int did = random.nextInt(10);
            Check.due("sword", x.sword(cot, did), model.sword(cot, did));
        }
        for (int i = 0; i < 10; i++) {
            int mind = random.nextInt(4) == 0 ? random.nextInt(100) : random.nextInt(25);
            Check.due("MIND", x.mend(i, 3, mind), model.mend(i, 3, mind));
        }
        if (random.nextInt(3) != 0) {
            tell(x, model, LAWS[random.nextInt(LAWS.length)]);
        }
        for (int shelf = 0; shelf < 3; shelf++) {
            int n = random.nextInt(30);
            Check.due("row", x.row(shelf, 0, n), model.row(shelf, 0, n));
            for (int i = 0; i < n; i++) {
                int v = random.nextInt(30) == 0 ? 12 : random.nextInt(12);
                Check.due("put", x.put(shelf, i, v), model.put(shelf, i, v));
            }
        }
    }

    private static void tell(SwordAttic x, Model model, String law) {
        Check.due("law", x.law(), model.law());
        for (char c : law.toCharArray()) {
            Check.due("feed", x.feed(c), model.feed(c));
        }
        Check.due("law " + law, x.law(), model.law());
    }

    /** Lays on shelf 3 what a sword would cry by the round on shelf 0, now and then with a slip. */
    private static void cried(SwordAttic x, Model model, Random random) {
        int sword = random.nextInt(10);
        int n = 1 + random.nextInt(6);
        x.row(3, 0, n);
        model.row(3, 0, n);
        for (int i = 0; i < n; i++) {
            int mind = model.later(0, i, sword);
            Check.due("later", x.later(0, i, sword), mind);
            int v = random.nextInt(12) == 0 ? mind + 1 : mind;
            x.put(3, i, v);
            model.put(3, i, v);
        }
        Check.due("judge", x.judge(3, sword), model.judge(3, sword));
        for (int what = 0; what < 4; what++) {
            int ab = 10 * sword + (random.nextBoolean() ? sword : random.nextInt(10));
            Check.due("fits " + ab + " " + what, x.fits(3, ab, what), model.fits(3, ab, what));
        }
    }

    private static Object[] numbers(Method call, Random random, int wildness) {
        Class<?>[] types = call.getParameterTypes();
        int[] tops = tops(call.getName(), types.length);
        Object[] given = new Object[types.length];
        for (int i = 0; i < types.length; i++) {
            boolean wild = random.nextInt(100) < wildness;
            long v = wild ? EXTREMES[random.nextInt(EXTREMES.length)] : usual(call.getName(), i, tops[i], random);
            if (types[i] == long.class) {
                given[i] = random.nextInt(10) == 0 ? random.nextLong() : v;
            } else {
                given[i] = (int) v;
            }
        }
        return given;
    }

    private static long usual(String call, int i, int top, Random random) {
        if (call.equals("drawn")) {
            return i == 0 ? random.nextInt()
                : i == 1 ? 10000 * (1 + random.nextInt(6)) + 100 * (1 + random.nextInt(14)) + random.nextInt(13)
                : random.nextInt(11) - 1;
        }
        if (call.equals("judge") && i == 0 || call.equals("fits") && i == 0) {
            return 10 * random.nextInt(4) + random.nextInt(4);
        }
        if (call.equals("feed")) {
            return "dymbct0123456789()!-+*/%<=>&|?;".charAt(random.nextInt(31));
        }
        if (call.equals("bestRound")) {
            return i == 0 ? random.nextInt(3) : random.nextInt(4) - 2;
        }
        if (call.equals("lines") && random.nextBoolean()) {
            return -1 - random.nextInt(2);
        }
        return random.nextInt(top + 1);
    }

    private static int[] tops(String call, int n) {
        switch (call) {
            case "sword": case "telling": return new int[] {11, 9};
            case "swords": return new int[] {5, 12, 10};
            case "mend": return new int[] {9, 7, 30};
            case "of": return new int[] {9, 8};
            case "later": return new int[] {2, 24, 9};
            case "awake": return new int[] {2, 24, 1};
            case "cries": return new int[] {2, 9, 99};
            case "woken": return new int[] {11, 1};
            case "fits": return new int[] {0, 99, 3};
            case "byTurns": return new int[] {4, 1};
            case "hour": case "touch": return new int[] {11};
            case "hold": return new int[] {9, 1};
            case "body": return new int[] {7};
            case "act": return new int[] {20, 3, 1000};
            case "trace": return new int[] {8};
            case "keep": return new int[] {5, 20};
            case "row": return new int[] {5, 4, 30};
            case "put": return new int[] {5, 24, 14};
            case "element": return new int[] {5, 24};
            case "shift": return new int[] {5, 12, 5, 12, 12};
            case "taken": return new int[] {5, 7};
            case "told": case "dealt": return new int[] {1};
            case "walk": return new int[] {2};
            case "lines": return new int[] {18};
            default:
                int[] fives = new int[n];
                Arrays.fill(fives, 5);
                return fives;
        }
    }

    /** Texts at random, right ones and ones with a byte changed, taken out, or cut off. */
    private static void laws(Random random, int n) {
        for (int i = 0; i < n; i++) {
            StringBuilder text = new StringBuilder(line(random));
            while (random.nextInt(3) == 0) {
                text.append(';').append(line(random));
            }
            text.setLength(Math.min(text.length(), 120));
            if (random.nextInt(2) == 0) {
                int at = random.nextInt(text.length());
                switch (random.nextInt(4)) {
                    case 0: text.setCharAt(at, "dy09()!-+*<=&|?; x".charAt(random.nextInt(18))); break;
                    case 1: text.deleteCharAt(at); break;
                    case 2: text.setLength(at); break;
                    default: text.insert(at, "dy09()!-+*<=&|?;".charAt(random.nextInt(16))); break;
                }
                text.setLength(Math.min(text.length(), 120));
            }
            SwordAttic x = new SwordAttic();
            Model model = new Model();
            for (int s = 0; s < 3; s++) {
                int did = random.nextInt(10);
                x.sword(s, did);
                model.sword(s, did);
                x.mend(s, 3, 7 * s + did);
                model.mend(s, 3, 7 * s + did);
            }
            for (int k = 0; k < text.length(); k++) {
                x.feed(text.charAt(k));
                model.feed(text.charAt(k));
            }
            Check.due("law " + text, x.law(), model.law());
            for (int s = 0; s < 3; s++) {
                Check.due("grows by " + text, x.grows(s), model.grows(s));
            }
        }
    }

    private static String line(Random random) {
        return random.nextBoolean() ? or(random, 3) : or(random, 2) + "?" + or(random, 2);
    }

    private static String or(Random random, int deep) {
        String[] signs = {"|", "&", "<", "=", ">", "+", "-", "*", "/", "%"};
        StringBuilder text = new StringBuilder(operand(random, deep));
        boolean compared = false;
        while (random.nextInt(5) < 2) {
            String sign = signs[random.nextInt(signs.length)];
            boolean compares = "<=>".contains(sign);
            if (compares && compared && random.nextInt(10) != 0) {
                continue;
            }
            compared = compares || compared && !"|&".contains(sign);
            text.append(sign).append(operand(random, deep));
        }
        return text.toString();
    }

    private static String operand(Random random, int deep) {
        int pick = random.nextInt(10);
        if (deep > 0 && pick < 3) {
            return "(" + or(random, deep - 1) + ")";
        }
        if (pick < 5) {
            return (random.nextBoolean() ? "!" : "-") + operand(random, deep - 1);
        }
        if (pick < 7) {
            return Integer.toString(random.nextInt(random.nextBoolean() ? 10 : 10000));
        }
        return "" + "dymbct".charAt(random.nextInt(6));
    }
}

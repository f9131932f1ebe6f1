import java.io.IOException;
import java.lang.reflect.Field;
import java.lang.reflect.Member;
import java.lang.reflect.Method;
import java.lang.reflect.Modifier;
import java.nio.file.Files;
import java.nio.file.Path;
import java.util.ArrayList;
import java.util.List;
import java.util.Set;
import java.util.TreeSet;
import java.util.regex.Matcher;
import java.util.regex.Pattern;

/** The document's public face, and what of LANGUAGE.md can be seen without reading. */
public final class FaceTest {
    private static final Path DOC = Path.of("../shared/DOC.md");
    private static final Pattern CALL = Pattern.compile("    public (int|long) (\\w+)\\((.*)\\);");
    private static final Pattern PROMISE = Pattern.compile("`(int|long) (\\w+)\\((.*)\\)`: .*");
    private static final String[] FORBIDDEN = {
        "throw", "try", "catch", "finally", "synchronized", "assert", "import", "->", "::", "protected", "double", "float",
        "hashCode", "toString", "enum", "record", "System.out", "Exact"};

    public static void main(String[] args) throws IOException {
        constants();
        members();
        source();
        whatIsMade();
        Check.end("FaceTest");
    }

    private static void constants() {
        Check.due("BAD", SwordAttic.BAD, -1);
        Check.due("NOT", SwordAttic.NOT, -2);
        Check.due("FULL", SwordAttic.FULL, -3);
        Check.due("STATE", SwordAttic.STATE, -5);
        Check.due("VOID", SwordAttic.VOID, -2000000000);
    }

    /** The calls of the document by one of its two ways to show them, as answer, name and types of parameters. */
    private static Set<String> callsOf(Pattern shown) throws IOException {
        Set<String> calls = new TreeSet<>();
        for (String line : Files.readAllLines(DOC)) {
            Matcher m = shown.matcher(line);
            if (m.matches()) {
                calls.add(m.group(1) + " " + m.group(2) + "(" + m.group(3).replaceAll(" \\w+(, |$)", "$1") + ")");
            }
        }
        return calls;
    }

    private static String told(Method m) {
        List<String> types = new ArrayList<>();
        for (Class<?> type : m.getParameterTypes()) {
            types.add(type.getName());
        }
        return m.getReturnType().getName() + " " + m.getName() + "(" + String.join(", ", types) + ")";
    }

    private static void members() throws IOException {
        Set<String> found = new TreeSet<>();
        Set<String> names = new TreeSet<>();
        for (Method m : SwordAttic.class.getDeclaredMethods()) {
            if (Modifier.isPublic(m.getModifiers())) {
                found.add(told(m));
                names.add(m.getName());
            }
        }
        Check.due("calls of the face", found.size(), 40);
        Check.due("the face is " + found + ", due is " + callsOf(CALL), found.equals(callsOf(CALL)) ? 1 : 0, 1);
        Check.due("the promises are of " + callsOf(PROMISE), found.equals(callsOf(PROMISE)) ? 1 : 0, 1);
        List<Class<?>> classes = new ArrayList<>(List.of(SwordAttic.class.getDeclaredClasses()));
        Check.due("classes inside, twelve at most", classes.size() <= 11 ? 1 : 0, 1);
        for (Class<?> c : classes) {
            Check.due(c + " is static", Modifier.isStatic(c.getModifiers()) ? 1 : 0, 1);
        }
        classes.add(SwordAttic.class);
        for (Class<?> c : classes) {
            Check.due(c + ", its fields", countOwnFields(c) <= 20 ? 1 : 0, 1);
            for (Method m : c.getDeclaredMethods()) {
                boolean isFace = c == SwordAttic.class && Modifier.isPublic(m.getModifiers());
                Check.due(c + " " + m.getName() + " bears a name of the face", !isFace && names.contains(m.getName()) ? 1 : 0, 0);
                Check.due(m + ", its parameters", m.getParameterCount() <= 7 ? 1 : 0, 1);
            }
        }
        onlyTheFaceIsSeen();
    }

    private static int countOwnFields(Class<?> c) {
        int n = 0;
        for (Field f : c.getDeclaredFields()) {
            boolean isStatic = Modifier.isStatic(f.getModifiers());
            Check.due(f + " is final, if static", isStatic && !Modifier.isFinal(f.getModifiers()) ? 1 : 0, 0);
            n += isStatic ? 0 : 1;
        }
        return n;
    }

    private static void onlyTheFaceIsSeen() {
        List<Member> all = new ArrayList<>();
        all.addAll(List.of(SwordAttic.class.getDeclaredFields()));
        all.addAll(List.of(SwordAttic.class.getDeclaredMethods()));
        all.addAll(List.of(SwordAttic.class.getDeclaredConstructors()));
        int seen = 0;
        for (Member m : all) {
            int how = m.getModifiers();
            Check.due(m + " is public or private", Modifier.isPublic(how) || Modifier.isPrivate(how) ? 1 : 0, 1);
            seen += Modifier.isPublic(how) ? 1 : 0;
        }
        Check.due("constants, constructor, methods", seen, 5 + 1 + 40);
    }

    private static void source() throws IOException {
        String text = Files.readString(Path.of("src/main/java/SwordAttic.java"));
        String code = text.replaceAll("(?s)/\\*.*?\\*/", "").replaceAll("//[^\n]*", "");
        for (String word : FORBIDDEN) {
            String edge = Character.isLetter(word.charAt(0)) ? "\\b" : "";
            Matcher m = Pattern.compile(edge + Pattern.quote(word) + edge).matcher(code);
            Check.due("'" + word + "' in the source", m.find() ? 1 : 0, 0);
        }
        int longest = 0;
        int opened = 0;
        String[] lines = code.split("\n", -1);
        for (int i = 0; i < lines.length; i++) {
            boolean isMethod = lines[i].matches("( {4}| {8})[a-z].*\\) \\{");
            opened = isMethod ? i : opened;
            boolean isEnd = lines[i].equals("    }") || lines[i].equals("        }");
            longest = isEnd && opened > 0 ? Math.max(longest, i - opened) : longest;
            opened = isEnd ? 0 : opened;
        }
        Check.due("the longest method has " + longest + " lines", longest > 0 && longest <= 60 ? 1 : 0, 1);
    }

    /** Objects are made by fields and constructors alone, so that no run of calls fills the room. */
    private static void whatIsMade() throws IOException {
        Pattern constructor = Pattern.compile("( {4,8})(public )?[A-Z]\\w*\\(.*\\) \\{");
        String endOfConstructor = "";
        int made = 0;
        for (String line : Files.readAllLines(Path.of("src/main/java/SwordAttic.java"))) {
            Matcher head = constructor.matcher(line);
            if (head.matches()) {
                endOfConstructor = head.group(1) + "}";
            } else if (line.equals(endOfConstructor)) {
                endOfConstructor = "";
            }
            if (line.matches(".*\\bnew\\b.*")) {
                made++;
                boolean isField = line.matches(" {4,8}(private )?final [^()]* = new .*;");
                Check.due("made by a call: " + line.trim(), isField || !endOfConstructor.isEmpty() ? 1 : 0, 1);
            }
        }
        Check.due("something is made", made > 0 ? 1 : 0, 1);
    }
}

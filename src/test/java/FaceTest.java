import java.io.IOException;
import java.lang.reflect.Field;
import java.lang.reflect.Member;
import java.lang.reflect.Method;
import java.lang.reflect.Modifier;
import java.nio.file.Files;
import java.nio.file.Path;
import java.util.ArrayList;
import java.util.Arrays;
import java.util.List;
import java.util.Set;
import java.util.TreeSet;
import java.util.regex.Matcher;
import java.util.regex.Pattern;

/** The document's public face, and what of LANGUAGE.md can be seen without reading. */
public final class FaceTest {
    private static final String FACE =
        "sword2 swords3 mend3 of2 feed1 law0 grows1 later3 awake3 cries3 asleep1 bestRound2 told1 woken2 walk1 "
        + "judge2 fits3 dealt1 lines1 byTurns2 drawn3 hour1 telling2 touch1 hold2 led1 image0 back0 undo0 redo0 "
        + "body1 act3 trace1 keep2 row3 put3 element2 shift5 taken2 count1";
    private static final String[] FORBIDDEN = {
        "throw", "try", "catch", "finally", "synchronized", "assert", "import", "->", "::", "protected", "double", "float",
        "hashCode", "toString", "enum", "record", "System.out", "Exact"};

    public static void main(String[] args) throws IOException {
        constants();
        members();
        source();
        Check.end("FaceTest");
    }

    private static void constants() {
        Check.due("BAD", SwordAttic.BAD, -1);
        Check.due("NOT", SwordAttic.NOT, -2);
        Check.due("FULL", SwordAttic.FULL, -3);
        Check.due("STATE", SwordAttic.STATE, -5);
        Check.due("VOID", SwordAttic.VOID, -2000000000);
    }

    private static void members() {
        Set<String> face = new TreeSet<>(Arrays.asList(FACE.split(" ")));
        Set<String> found = new TreeSet<>();
        Set<String> names = new TreeSet<>();
        for (Method m : SwordAttic.class.getDeclaredMethods()) {
            if (Modifier.isPublic(m.getModifiers())) {
                found.add(m.getName() + m.getParameterCount());
                names.add(m.getName());
            }
        }
        Check.due("the face is " + found, found.equals(face) ? 1 : 0, 1);
        List<Class<?>> classes = new ArrayList<>(List.of(SwordAttic.class.getDeclaredClasses()));
        Check.due("classes inside, twelve at most", classes.size() <= 11 ? 1 : 0, 1);
        for (Class<?> c : classes) {
            Check.due(c + " is static", Modifier.isStatic(c.getModifiers()) ? 1 : 0, 1);
        }
        classes.add(SwordAttic.class);
        for (Class<?> c : classes) {
            Check.due(c + ", its fields", countOwnFields(c) <= 20 ? 1 : 0, 1);
            for (Method m : c.getDeclaredMethods()) {
                boolean isFace = c == SwordAttic.class && Modifier.isPublic(m.getModifiers());
                Check.due(c + " " + m.getName() + " bears a name of the face", !isFace && names.contains(m.getName()) ? 1 : 0, 0);
                Check.due(m + ", its parameters", m.getParameterCount() <= 7 ? 1 : 0, 1);
            }
        }
        onlyTheFaceIsSeen();
    }

    private static int countOwnFields(Class<?> c) {
        int n = 0;
        for (Field f : c.getDeclaredFields()) {
            boolean isStatic = Modifier.isStatic(f.getModifiers());
            Check.due(f + " is final, if static", isStatic && !Modifier.isFinal(f.getModifiers()) ? 1 : 0, 0);
            n += isStatic ? 0 : 1;
        }
        return n;
    }

    private static void onlyTheFaceIsSeen() {
        List<Member> all = new ArrayList<>();
        all.addAll(List.of(SwordAttic.class.getDeclaredFields()));
        all.addAll(List.of(SwordAttic.class.getDeclaredMethods()));
        all.addAll(List.of(SwordAttic.class.getDeclaredConstructors()));
        int seen = 0;
        for (Member m : all) {
            int how = m.getModifiers();
            Check.due(m + " is public or private", Modifier.isPublic(how) || Modifier.isPrivate(how) ? 1 : 0, 1);
            seen += Modifier.isPublic(how) ? 1 : 0;
        }
        Check.due("constants, constructor, methods", seen, 5 + 1 + 40);
    }

    private static void source() throws IOException {
        String text = Files.readString(Path.of("src/main/java/SwordAttic.java"));
        String code = text.replaceAll("(?s)/\\*.*?\\*/", "").replaceAll("//[^\n]*", "");
        for (String word : FORBIDDEN) {
            String edge = Character.isLetter(word.charAt(0)) ? "\\b" : "";
            Matcher m = Pattern.compile(edge + Pattern.quote(word) + edge).matcher(code);
            Check.due("'" + word + "' in the source", m.find() ? 1 : 0, 0);
        }
        int longest = 0;
        int opened = 0;
        String[] lines = code.split("\n", -1);
        for (int i = 0; i < lines.length; i++) {
            boolean isMethod = lines[i].matches("( {4}| {8})[a-z].*\\) \\{");
            opened = isMethod ? i : opened;
            boolean isEnd = lines[i].equals("    }") || lines[i].equals("        }");
            longest = isEnd && opened > 0 ? Math.max(longest, i - opened) : longest;
            opened = isEnd ? 0 : opened;
        }
        Check.due("the longest method has " + longest + " lines", longest > 0 && longest <= 60 ? 1 : 0, 1);
    }
}

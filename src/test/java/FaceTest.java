import java.io.IOException;
import java.lang.reflect.Field;
import java.lang.reflect.Method;
import java.lang.reflect.Modifier;
import java.nio.file.Files;
import java.nio.file.Path;
import java.util.Arrays;
import java.util.HashSet;
import java.util.Set;
import java.util.TreeSet;
import java.util.regex.Pattern;
import java.util.stream.Collectors;

/** The public face is the document's, and the source keeps to the rules of LANGUAGE.md that a text tells. */
public final class FaceTest {
    private static final String I = "IndexOutOfBoundsException";
    private static final String A = "IllegalArgumentException";
    private static final String S = "IllegalStateException";
    private static final String[] CALLS = {
        "int bundle(int, int, int, int) " + I + " " + A + " " + S,
        "int connector(int, int, int) " + I + " " + A + " " + S,
        "int mates(int, int) " + I + " " + A + " " + S,
        "int wire(int, int, int, int, int) " + I + " " + A + " " + S,
        "int pull(int) " + I + " " + S,
        "int ofWire(int, int) " + I,
        "int weight(int) " + A,
        "int order(int, int) " + A + " " + S,
        "int least(int) " + A,
        "int leastAnew(int) " + A,
        "boolean crimp(int) " + A,
        "int crimps(int) " + A,
        "int reel(int, int, int) " + I + " " + A + " " + S,
        "int open(int, boolean) " + I + " " + S,
        "int ofReel(int, int) " + I,
        "int board() " + S,
        "int place(int, int, int) " + I + " " + S,
        "void limits(boolean, int, int, int) " + I + " " + A,
        "int solder(int) " + I + " " + S,
        "void flaw(int, int) " + I + " " + S,
        "int cover(int, boolean) " + I,
        "int test(int) " + I + " " + S,
        "int repair(int, int, int) " + I + " " + S,
        "int ship(int) " + I + " " + S,
        "int pass(int) " + A + " " + S,
        "int ofSlot(int, int, int) " + I,
        "int jointAnew(int, int) " + I,
        "int recall(int) " + I};
    private static final String[] NOT_IN_THE_SOURCE = {"catch", "try", "finally", "synchronized", "assert", "->", "::",
        "static {", "Exact(", "package ", "new Thread", "Random", "System.", "double ", "float ", ".stream"};

    public static void main(String[] args) throws IOException {
        calls();
        constants();
        membersOfItsOwn();
        classesInside();
        source();
        Due.end();
    }

    private static String names(Class<?>[] classes, String between) {
        return Arrays.stream(classes).map(Class::getSimpleName).collect(Collectors.joining(between));
    }

    private static void calls() {
        Set<String> got = new TreeSet<>();
        for (Method m : Sparkline.class.getDeclaredMethods()) {
            if (Modifier.isPublic(m.getModifiers())) {
                got.add(m.getReturnType().getSimpleName() + " " + m.getName() + "(" + names(m.getParameterTypes(), ", ")
                    + ") " + names(m.getExceptionTypes(), " "));
            }
        }
        Due.same("the calls", new TreeSet<>(Arrays.asList(CALLS)).toString(), got.toString());
        Due.holds("public and final", Modifier.toString(Sparkline.class.getModifiers()).equals("public final"));
        Due.is("constructors", 1, () -> Sparkline.class.getDeclaredConstructors().length);
        Due.is("public constructors without arguments", 0,
            () -> Sparkline.class.getConstructors()[0].getParameterCount());
    }

    private static void constants() {
        Due.is("NONE", -1, () -> Sparkline.NONE);
        Due.is("GOOD", 0, () -> Sparkline.GOOD);
        Due.is("COLD", 1, () -> Sparkline.COLD);
        Due.is("BURNT", 2, () -> Sparkline.BURNT);
        Due.is("HIDDEN", 3, () -> Sparkline.HIDDEN);
        Set<String> got = new TreeSet<>();
        for (Field f : Sparkline.class.getFields()) {
            got.add(Modifier.toString(f.getModifiers()) + " " + f.getType() + " " + f.getName());
        }
        Due.same("the constants", "[public static final int BURNT, public static final int COLD, "
            + "public static final int GOOD, public static final int HIDDEN, public static final int NONE]",
            got.toString());
    }

    private static void membersOfItsOwn() {
        Set<String> face = new HashSet<>();
        for (Method m : Sparkline.class.getMethods()) {
            face.add(m.getName());
        }
        for (Method m : Sparkline.class.getDeclaredMethods()) {
            boolean isPrivate = Modifier.isPrivate(m.getModifiers());
            Due.holds("public or private: " + m.getName(), isPrivate || Modifier.isPublic(m.getModifiers()));
            Due.holds("a name of its own: " + m.getName(), !isPrivate || !face.contains(m.getName()));
        }
        for (Field f : Sparkline.class.getDeclaredFields()) {
            boolean isPrivate = Modifier.isPrivate(f.getModifiers());
            Due.holds("public or private: " + f.getName(), isPrivate || Modifier.isPublic(f.getModifiers()));
            Due.holds("final if static: " + f.getName(),
                !Modifier.isStatic(f.getModifiers()) || Modifier.isFinal(f.getModifiers()));
        }
    }

    private static void classesInside() {
        Class<?>[] inside = Sparkline.class.getDeclaredClasses();
        Due.holds("at most twelve classes", inside.length < 12);
        for (Class<?> c : inside) {
            int isKind = c.getModifiers();
            Due.holds("static and not public: " + c, Modifier.isStatic(isKind) && !Modifier.isPublic(isKind)
                && !Modifier.isProtected(isKind));
            long fields = Arrays.stream(c.getDeclaredFields())
                .filter(f -> !Modifier.isStatic(f.getModifiers())).count();
            Due.holds("at most twenty fields: " + c, fields <= 20);
            for (Method m : c.getDeclaredMethods()) {
                Due.holds("at most seven parameters: " + m, m.getParameterCount() <= 7);
            }
        }
    }

    private static void source() throws IOException {
        String source = Files.readString(Path.of("src/main/java/Sparkline.java"));
        Due.holds("signs 1 to 127", source.chars().allMatch(c -> c >= 1 && c <= 127));
        String imports = source.lines().filter(l -> l.startsWith("import")).collect(Collectors.joining());
        Due.same("imports", "import java.util.ArrayList;", imports);
        String code = source.replaceAll("(?s)/\\*.*?\\*/", "").replaceAll("//.*", "");
        for (String word : NOT_IN_THE_SOURCE) {
            boolean isWord = Character.isLetter(word.charAt(0)) && Character.isLetter(word.charAt(word.length() - 1));
            String pattern = isWord ? "\\b" + word + "\\b" : Pattern.quote(word);
            Due.holds("without " + word, !Pattern.compile(pattern).matcher(code).find());
        }
    }
}

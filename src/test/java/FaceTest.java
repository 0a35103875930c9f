import java.lang.reflect.Constructor;
import java.lang.reflect.Field;
import java.lang.reflect.Method;
import java.lang.reflect.Modifier;
import java.nio.file.Files;
import java.nio.file.Path;
import java.util.Arrays;
import java.util.Set;
import java.util.TreeSet;
import java.util.regex.Matcher;
import java.util.regex.Pattern;

/** The public face of the document, and the rules of LANGUAGE.md that can be seen from outside. */
public final class FaceTest {
    private static final Set<String> FACE = Set.of(
        "int set(int, int, int)", "int piece(int, int, int, int)", "int get(int, int)",
        "int next(int, int, int)", "int join(int, int, int)", "int cut(int, int, int, int)",
        "int copy(int, int)", "int look(int, int)", "int meet(int, int, int)", "long word(int, int)",
        "int load(int, long, long, long)", "long walk(int)", "int clear(int)", "int text(int)",
        "int octet(int)");
    private static final String[] BANNED = {
        "package", "import", "throw", "throws", "try", "catch", "finally", "synchronized", "assert",
        "protected", "volatile", "native", "Object", "System", "Thread", "Random", "var",
    };

    private static final Due due = new Due();

    public static void main(String[] args) throws Exception {
        theClass();
        theMethods();
        theFields();
        theClassesInside();
        theSource();
        due.end();
    }

    private static void theClass() {
        due.part("the class");
        int modifiers = BitBoard.class.getModifiers();
        due.holds("public and final", Modifier.isPublic(modifiers) && Modifier.isFinal(modifiers));
        Constructor<?>[] constructors = BitBoard.class.getDeclaredConstructors();
        due.is("how many constructors", constructors.length, 1);
        due.holds("a public constructor", Modifier.isPublic(constructors[0].getModifiers()));
        due.is("its parameters", constructors[0].getParameterCount(), 0);
    }

    private static void theMethods() {
        due.part("the methods");
        Set<String> found = new TreeSet<>();
        Set<String> publicNames = new TreeSet<>();
        for (Method m : BitBoard.class.getDeclaredMethods()) {
            if (!Modifier.isPrivate(m.getModifiers())) {
                found.add(signature(m));
                publicNames.add(m.getName());
                due.holds(m + " public, not static",
                    Modifier.isPublic(m.getModifiers()) && !Modifier.isStatic(m.getModifiers()));
            }
        }
        due.holds("the face is the document's, found " + found, found.equals(FACE));
        for (Method m : BitBoard.class.getDeclaredMethods()) {
            if (Modifier.isPrivate(m.getModifiers())) {
                due.holds(m + " has a name of its own", !publicNames.contains(m.getName()));
            }
        }
    }

    private static String signature(Method m) {
        String types = Arrays.toString(m.getParameterTypes());
        return m.getReturnType() + " " + m.getName() + "(" + types.substring(1, types.length() - 1) + ")";
    }

    private static void theFields() throws Exception {
        due.part("the fields");
        due.is("REFUSED", BitBoard.class.getField("REFUSED").getInt(null), -2);
        for (Field f : BitBoard.class.getDeclaredFields()) {
            int modifiers = f.getModifiers();
            due.holds(f + " private", Modifier.isPrivate(modifiers) || f.getName().equals("REFUSED"));
            due.holds(f + " final, if static", Modifier.isFinal(modifiers) || !Modifier.isStatic(modifiers));
        }
    }

    private static void theClassesInside() {
        due.part("the classes inside");
        due.holds("at most twelve", BitBoard.class.getDeclaredClasses().length <= 11);
        for (Class<?> c : BitBoard.class.getDeclaredClasses()) {
            int modifiers = c.getModifiers();
            due.holds(c + " static", Modifier.isStatic(modifiers));
            due.holds(c + " not public", !Modifier.isPublic(modifiers) && !Modifier.isProtected(modifiers));
            for (Field f : c.getDeclaredFields()) {
                due.holds(f + " final, if static",
                    Modifier.isFinal(f.getModifiers()) || !Modifier.isStatic(f.getModifiers()));
            }
        }
    }

    private static void theSource() throws Exception {
        due.part("the source");
        String source = Files.readString(Path.of("src/main/java/BitBoard.java"));
        String code = source.replaceAll("(?s)/\\*.*?\\*/", " ").replaceAll("//[^\n]*", " ");
        for (String word : BANNED) {
            due.holds("no " + word, !Pattern.compile("\\b" + word + "\\b").matcher(code).find());
        }
        due.holds("no lambda, no method reference", !code.contains("->") && !code.contains("::"));
        due.holds("no local or anonymous class", !Pattern.compile("new \\w+\\([^)]*\\) *\\{").matcher(code).find());
        Matcher library = Pattern.compile("\\b(Long|Integer|Math)\\.(\\w+)").matcher(code);
        while (library.find()) {
            due.holds("no " + library.group(), !library.group(2).endsWith("Exact"));
        }
    }
}

import java.lang.reflect.Method;
import java.lang.reflect.Modifier;
import java.nio.file.Files;
import java.nio.file.Path;
import java.util.Set;
import java.util.TreeSet;
import java.util.regex.Matcher;
import java.util.regex.Pattern;

/** README.md tells the truth: its examples answer what it says, and its table has every call. */
public final class ReadmeTest {
    private static final Pattern EXAMPLE = Pattern.compile("(?m)^board\\.(\\w+)\\(([^)]*)\\); *// ([^:]+):");
    private static final Pattern TABLE_LINE = Pattern.compile("(?m)^\\| `(\\w+)\\(([^)]*)\\)` \\|");

    private static final Due due = new Due();

    public static void main(String[] args) throws Exception {
        String readme = Files.readString(Path.of("README.md"));
        examples(readme);
        table(readme);
        due.end();
    }

    private static void examples(String readme) throws Exception {
        due.part("the examples of README.md");
        BitBoard board = new BitBoard();
        int found = 0;
        Matcher example = EXAMPLE.matcher(readme);
        while (example.find()) {
            String[] words = example.group(2).split(", *");
            Object[] values = new Object[words.length];
            for (int i = 0; i < words.length; i++) {
                values[i] = Integer.valueOf(words[i]);
            }
            Number got = (Number) callNamed(example.group(1)).invoke(board, values);
            String want = example.group(3);
            boolean refused = want.equals("BitBoard.REFUSED");
            due.is(example.group(), got.longValue(), refused ? BitBoard.REFUSED : Long.parseLong(want));
            found++;
        }
        int lines = readme.split("(?m)^board\\.", -1).length - 1;
        due.holds("there are examples", lines > 0);
        due.is("how many lines are examples with an answer", found, lines);
    }

    private static void table(String readme) {
        due.part("the table of README.md");
        Set<String> told = new TreeSet<>();
        Matcher line = TABLE_LINE.matcher(readme);
        while (line.find()) {
            told.add(line.group(1) + " with " + line.group(2).split(", *").length);
        }
        Set<String> calls = new TreeSet<>();
        for (Method m : BitBoard.class.getDeclaredMethods()) {
            if (Modifier.isPublic(m.getModifiers())) {
                calls.add(m.getName() + " with " + m.getParameterCount());
            }
        }
        due.holds("it tells " + calls + ", found " + told, told.equals(calls));
    }

    private static Method callNamed(String name) {
        for (Method m : BitBoard.class.getDeclaredMethods()) {
            if (Modifier.isPublic(m.getModifiers()) && m.getName().equals(name)) {
                return m;
            }
        }
        throw new IllegalArgumentException("README.md has a call that there is not: " + name);
    }
}

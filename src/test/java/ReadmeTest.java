import java.lang.reflect.Method;
import java.lang.reflect.Modifier;
import java.nio.file.Files;
import java.nio.file.Path;
import java.util.Set;
import java.util.TreeSet;
import java.util.regex.Matcher;
import java.util.regex.Pattern;

/** README.md's examples answer what stands behind them; the page's path is the argument. */
public final class ReadmeTest {
    private static final Check c = new Check("ReadmeTest");
    private static final Pattern CALL = Pattern.compile("x\\.(\\w+)\\((.*?)\\); *// (-?\\d+)(:.*)?");
    private static final Set<String> shown = new TreeSet<>();

    private static Method methodNamed(String name) {
        for (Method m : BeatFollower.class.getDeclaredMethods()) {
            if (Modifier.isPublic(m.getModifiers()) && m.getName().equals(name)) {
                return m;
            }
        }
        throw new IllegalStateException("README.md shows a method that there is not: " + name);
    }

    /** A number, or a constant by its name. */
    private static long valueOf(String word) throws ReflectiveOperationException {
        if (word.startsWith("BeatFollower.")) {
            return BeatFollower.class.getField(word.substring("BeatFollower.".length())).getInt(null);
        }
        return Long.decode(word.endsWith("L") ? word.substring(0, word.length() - 1) : word);
    }

    private static int answer(BeatFollower x, Method m, String arguments) throws ReflectiveOperationException {
        String[] words = arguments.isEmpty() ? new String[0] : arguments.split(", ");
        Object[] values = new Object[words.length];
        for (int i = 0; i < words.length; i++) {
            long value = valueOf(words[i]);
            if (m.getParameterTypes()[i] == int.class) {
                values[i] = (int) value;
            } else {
                values[i] = value;
            }
        }
        return (Integer) m.invoke(x, values);
    }

    private static void play(String line, BeatFollower x) throws ReflectiveOperationException {
        Matcher call = CALL.matcher(line);
        c.holds("a call with its answer: " + line, call.matches());
        if (call.matches()) {
            shown.add(call.group(1));
            c.due(line, answer(x, methodNamed(call.group(1)), call.group(2)), Long.parseLong(call.group(3)));
        }
    }

    public static void main(String[] args) throws Exception {
        BeatFollower x = null;
        boolean inExample = false;
        for (String line : Files.readAllLines(Path.of(args[0]))) {
            if (line.startsWith("```")) {
                inExample = line.equals("```java");
            } else if (inExample && line.equals("BeatFollower x = new BeatFollower();")) {
                x = new BeatFollower();
            } else if (inExample) {
                play(line, x);
            }
        }
        for (Method m : BeatFollower.class.getDeclaredMethods()) {
            if (Modifier.isPublic(m.getModifiers())) {
                c.holds("README.md shows " + m.getName(), shown.contains(m.getName()));
            }
        }
        c.close();
    }
}

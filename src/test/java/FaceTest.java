import java.lang.reflect.Constructor;
import java.lang.reflect.Field;
import java.lang.reflect.Method;
import java.lang.reflect.Modifier;
import java.nio.file.Files;
import java.nio.file.Path;
import java.util.ArrayList;
import java.util.Arrays;
import java.util.List;
import java.util.Set;
import java.util.TreeSet;
import java.util.regex.Matcher;
import java.util.regex.Pattern;

/** The face of the class, and the rules of LANGUAGE.md that can be seen in the source; its path is the argument. */
public final class FaceTest {
    private static final Check c = new Check("FaceTest");
    private static final String[] METHODS = {
        "int set(int,int)", "int beat(int,int)", "int cut(int)", "int pass(int)", "int anew()", "int ofBeat(int,int)",
        "int ofBlow(int,int)", "int count(int)", "int slips()", "int nextBlow(int)", "int ifHeard(int)",
        "int endWith(int,int,int)", "int bestNudge(int)", "int worstBeat(int)", "int put(long)", "int wipe()",
        "int fault()", "int plan()", "int undo()", "int save(int)", "int restore(int)"};
    private static final String[] CONSTANTS = {
        "NO_SUCH=-1", "BAD_VALUE=-2", "BAD_TEXT=-3", "TOO_MANY=-4", "NOT_POSSIBLE=-5", "NONE=-6", "BASE=0", "WINDOW=1",
        "PHASE=2", "PACE=3", "GOOD=4", "WIN=5", "LOSE=6", "HOLD=7", "SEEKING=0", "LOCKED=1", "HOLDING=2"};

    private static void face() throws IllegalAccessException {
        Class<?> k = BeatFollower.class;
        c.holds("public and final", Modifier.isPublic(k.getModifiers()) && Modifier.isFinal(k.getModifiers()));
        List<String> methods = new ArrayList<>();
        for (Method m : k.getDeclaredMethods()) {
            if (!Modifier.isPrivate(m.getModifiers()) && !m.isSynthetic()) {
                c.holds("public and not static: " + m, m.getModifiers() == Modifier.PUBLIC);
                methods.add(m.toString().replace("public ", "").replace("BeatFollower.", ""));
            }
        }
        c.holds("the methods: " + methods, new TreeSet<>(methods).equals(new TreeSet<>(Arrays.asList(METHODS))));
        List<String> constants = new ArrayList<>();
        for (Field f : k.getDeclaredFields()) {
            if (!Modifier.isPrivate(f.getModifiers())) {
                c.holds("int: " + f, f.getType() == int.class);
                c.holds("public static final: " + f,
                    f.getModifiers() == (Modifier.PUBLIC | Modifier.STATIC | Modifier.FINAL));
                constants.add(f.getName() + "=" + f.getInt(null));
            }
        }
        c.holds("the constants: " + constants, new TreeSet<>(constants).equals(new TreeSet<>(Arrays.asList(CONSTANTS))));
        Constructor<?>[] made = k.getDeclaredConstructors();
        c.holds("one constructor", made.length == 1 && made[0].getParameterCount() == 0
            && Modifier.isPublic(made[0].getModifiers()));
    }

    private static void classesInside() {
        Class<?>[] inside = BeatFollower.class.getDeclaredClasses();
        c.holds("some twelve classes at most", inside.length <= 11);
        Set<String> faceNames = new TreeSet<>();
        for (Method m : BeatFollower.class.getDeclaredMethods()) {
            if (Modifier.isPublic(m.getModifiers())) {
                faceNames.add(m.getName());
            }
        }
        for (Method m : BeatFollower.class.getDeclaredMethods()) {
            c.holds("no private namesake: " + m,
                Modifier.isPublic(m.getModifiers()) || !faceNames.contains(m.getName()));
        }
        for (Class<?> k : inside) {
            c.holds("static: " + k, Modifier.isStatic(k.getModifiers()));
            c.holds("not public: " + k, (k.getModifiers() & (Modifier.PUBLIC | Modifier.PROTECTED)) == 0);
            c.holds("some twenty fields at most: " + k, k.getDeclaredFields().length <= 20);
            c.holds("no class inside: " + k, k.getDeclaredClasses().length == 0);
            for (Method m : k.getDeclaredMethods()) {
                c.holds("no namesake of the face: " + m, !faceNames.contains(m.getName()));
                c.holds("no method of Object: " + m,
                    !Set.of("equals", "hashCode", "toString", "compareTo").contains(m.getName()));
                c.holds("seven parameters at most: " + m, m.getParameterCount() <= 7);
            }
            for (Field f : k.getDeclaredFields()) {
                c.holds("no static state: " + f, !Modifier.isStatic(f.getModifiers()));
            }
        }
    }

    private static String withoutComments(String source) {
        return source.replaceAll("(?s)/\\*.*?\\*/", "").replaceAll("//[^\n]*", "");
    }

    private static void words(String code) {
        String[] forbidden = {"throw", "throws", "try", "catch", "finally", "synchronized", "assert", "import", "package",
            "protected", "float", "double", "System.out", "System.err", "hashCode", "toString", "instanceof", "volatile",
            "native", "Object", "Thread", "Random", "currentTimeMillis", "nanoTime", "Scanner", "File", "lambda",
            "Exact", "ensureCapacity", "stream", "Class", "getClass", "null"};
        for (String word : forbidden) {
            c.holds("no word " + word, !Pattern.compile("\\b" + Pattern.quote(word) + "\\b").matcher(code).find());
        }
        c.holds("no lambda", !code.contains("->"));
        c.holds("no method reference", !code.contains("::"));
        c.holds("no loop without a bound", !code.contains("for (;;)") && !code.contains("while"));
        c.holds("no sign above 127", code.chars().allMatch(sign -> sign < 128));
        Set<String> used = new TreeSet<>();
        Matcher m = Pattern.compile("\\b(Math|System|Arrays|Integer|Long|String|StringBuilder)\\.(\\w+)").matcher(code);
        while (m.find()) {
            used.add(m.group());
        }
        c.holds("the library: " + used, Set.of("Math.floorDiv", "Math.floorMod", "Math.abs", "Math.min", "Math.max",
            "System.arraycopy").containsAll(used));
    }

    private static void lengths(String source) {
        int start = 0;
        String[] lines = source.split("\n");
        for (int i = 0; i < lines.length; i++) {
            if (lines[i].matches(" {4}( {4})?\\S.*\\) \\{")) {
                start = i;
            } else if (lines[i].matches(" {4}( {4})?\\}")) {
                c.holds("some sixty lines at most: line " + (start + 1), i - start < 60);
            }
            c.holds("120 signs at most: line " + (i + 1), lines[i].length() <= 120);
        }
    }

    public static void main(String[] args) throws Exception {
        face();
        classesInside();
        String source = Files.readString(Path.of(args[0]));
        String code = withoutComments(source);
        words(code);
        lengths(source);
        c.close();
    }
}

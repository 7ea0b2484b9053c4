import java.io.IOException;
import java.lang.reflect.Field;
import java.lang.reflect.Method;
import java.lang.reflect.Modifier;
import java.nio.file.Files;
import java.nio.file.Path;
import java.util.Arrays;
import java.util.List;
import java.util.Set;
import java.util.TreeSet;
import java.util.regex.Matcher;
import java.util.regex.Pattern;

/** The face of the class, and what LANGUAGE.md rules out and can be seen from here. */
public final class SourceTest {
    private static final List<String> FACE = List.of("node 4", "bridge 5", "mend 3", "route 3", "send 5", "resend 1",
        "forge 5", "ticks 1", "ofNode 2", "ofBridge 2", "ofParcel 2", "byteAt 2", "count 1", "leastRoom 2", "slices 3",
        "time 3", "stateIn 2", "doneIn 1", "gap 2", "put 1", "wipe 0", "fault 0", "carryOut 0", "undo 0", "save 1",
        "restore 1");
    private static final String RULED_OUT = "\\b(throw|throws|try|catch|finally|synchronized|assert|instanceof|import|package"
        + "|native|volatile|transient|default ->|\\w+Exact|System\\.(?!arraycopy)\\w+|Thread|Random|Object|Integer|List)\\b"
        + "|->|::|\"";

    public static void main(String[] args) throws IOException {
        constants();
        face();
        privateNames();
        words();
        methodsAreShort();
        Checks.finish();
    }

    private static void constants() {
        Checks.due("NO_SUCH", StubbornBridges.NO_SUCH, -1);
        Checks.due("BAD_VALUE", StubbornBridges.BAD_VALUE, -2);
        Checks.due("BAD_TEXT", StubbornBridges.BAD_TEXT, -3);
        Checks.due("TOO_MANY", StubbornBridges.TOO_MANY, -4);
        Checks.due("NOT_POSSIBLE", StubbornBridges.NOT_POSSIBLE, -5);
        Checks.due("NONE", StubbornBridges.NONE, -6);
        Checks.due("ON_ITS_WAY", StubbornBridges.ON_ITS_WAY, 0);
        Checks.due("WHOLE", StubbornBridges.WHOLE, 1);
        Checks.due("BROKEN", StubbornBridges.BROKEN, 2);
        Checks.due("TIMED_OUT", StubbornBridges.TIMED_OUT, 3);
        Checks.due("EVICTED", StubbornBridges.EVICTED, 4);
        Checks.due("REFUSED", StubbornBridges.REFUSED, 5);
    }

    private static void face() {
        Class<?> c = StubbornBridges.class;
        Checks.due("public and final", c.getModifiers(), Modifier.PUBLIC | Modifier.FINAL);
        Checks.due("constructors", c.getDeclaredConstructors().length, 1);
        Set<String> found = new TreeSet<>();
        for (Method m : c.getDeclaredMethods()) {
            if (Modifier.isPrivate(m.getModifiers())) continue;
            found.add(m.getName() + " " + m.getParameterCount());
            Checks.due(m.getName() + " is public alone", m.getModifiers(), Modifier.PUBLIC);
            Checks.due(m.getName() + " answers an int", m.getReturnType() == int.class ? 1 : 0, 1);
            for (Class<?> type : m.getParameterTypes()) {
                Class<?> want = m.getName().equals("put") ? long.class : int.class;
                Checks.due(m.getName() + " takes the right numbers", type == want ? 1 : 0, 1);
            }
        }
        Checks.due("the methods " + found, found.equals(new TreeSet<>(FACE)) ? 1 : 0, 1);
        int constants = 0;
        for (Field f : c.getDeclaredFields()) {
            if (Modifier.isPrivate(f.getModifiers())) continue;
            constants++;
            Checks.due(f.getName(), f.getModifiers(), Modifier.PUBLIC | Modifier.STATIC | Modifier.FINAL);
        }
        Checks.due("the constants", constants, 12);
        for (Class<?> inner : c.getDeclaredClasses()) {
            Checks.due(inner + " is static", inner.getModifiers() & Modifier.STATIC, Modifier.STATIC);
            Checks.due(inner + " is private", inner.getModifiers() & Modifier.PRIVATE, Modifier.PRIVATE);
        }
    }

    /** No method of the classes inside it, and no private one, bears a public name, nor takes more than seven parameters. */
    private static void privateNames() {
        Class<?>[] classes = Arrays.copyOf(StubbornBridges.class.getDeclaredClasses(),
            StubbornBridges.class.getDeclaredClasses().length + 1);
        classes[classes.length - 1] = StubbornBridges.class;
        Checks.due("at most 12 classes", classes.length <= 12 ? 1 : 0, 1);
        for (Class<?> c : classes) {
            int fields = 0;
            for (Field f : c.getDeclaredFields()) {
                if (Modifier.isStatic(f.getModifiers())) Checks.due(f + " is final", f.getModifiers() & Modifier.FINAL, 16);
                else fields++;
            }
            Checks.due(c + " has few fields", fields <= 20 ? 1 : 0, 1);
            for (Method m : c.getDeclaredMethods()) {
                Checks.due(m + " has few parameters", m.getParameterCount() <= 7 ? 1 : 0, 1);
                if (c == StubbornBridges.class && Modifier.isPublic(m.getModifiers())) continue;
                boolean isPublicName = FACE.stream().anyMatch(name -> name.startsWith(m.getName() + " "));
                Checks.due(m + " has a name of its own", isPublicName ? 1 : 0, 0);
            }
        }
    }

    private static void words() throws IOException {
        String source = Files.readString(Path.of("src/main/java/StubbornBridges.java"));
        for (char c : source.toCharArray()) Checks.due("a plain sign " + (int) c, c == '\n' || c >= 32 && c < 127 ? 1 : 0, 1);
        String code = source.replaceAll("(?s)/\\*.*?\\*/", "").replaceAll("//[^\n]*", "");
        Matcher m = Pattern.compile(RULED_OUT).matcher(code);
        while (m.find()) Checks.due("ruled out: " + m.group(), 1, 0);
    }

    /** A method begins with a line that ends with "{" and ends with a "}" that stands as far to the right. */
    private static void methodsAreShort() throws IOException {
        List<String> lines = Files.readAllLines(Path.of("src/main/java/StubbornBridges.java"));
        Pattern head = Pattern.compile("( {4}| {8})(?! )(?!.*class).*\\) \\{");
        int methods = 0;
        for (int first = 0; first < lines.size(); first++) {
            Matcher m = head.matcher(lines.get(first));
            boolean isHead = m.matches() && !lines.get(first).matches(" *(if|for|while|switch|do|else|\\}).*");
            if (!isHead) continue;
            methods++;
            int last = first;
            while (last < lines.size() && !lines.get(last).equals(m.group(1) + "}")) last++;
            Checks.due("at most 60 lines from " + (first + 1) + " on", last - first < 60 ? 1 : 0, 1);
        }
        Checks.due("methods were found", methods > 80 ? 1 : 0, 1);
    }
}

import java.io.IOException;
import java.lang.reflect.Method;
import java.lang.reflect.Modifier;
import java.nio.file.Files;
import java.nio.file.Path;
import java.util.List;
import java.util.Set;
import java.util.TreeSet;
import java.util.regex.Matcher;
import java.util.regex.Pattern;

/** That README.md, read in the directory where the test is run, tells the calls and answers of the class. */
public final class ReadmeTest {
    private static final Pattern CALL = Pattern.compile("vault\\.(\\w+)\\((.*)\\); +// ([^:]*)(: .*)?");
    private static final Pattern ROW = Pattern.compile("\\| `(\\w+ \\w+)\\((.*)\\)` \\|.*");

    private final Due due = new Due("ReadmeTest");
    private final MergeVault vault = new MergeVault();
    private final Set<String> called = new TreeSet<>();
    private final Set<String> told = new TreeSet<>();

    public static void main(String[] args) throws IOException, ReflectiveOperationException {
        new ReadmeTest().read(Files.readAllLines(Path.of("README.md")));
    }

    private void read(List<String> lines) throws ReflectiveOperationException {
        for (String line : lines) {
            if (line.startsWith("vault.")) {
                call(line);
            }
            Matcher row = ROW.matcher(line);
            if (row.matches()) {
                told.add(row.group(1) + "(" + row.group(2).replaceAll(" \\w+(?=,|$)", "") + ")");
            }
        }
        Set<String> names = new TreeSet<>();
        Set<String> face = new TreeSet<>();
        for (Method method : MergeVault.class.getDeclaredMethods()) {
            if (Modifier.isPublic(method.getModifiers())) {
                names.add(method.getName());
                face.add(FaceTest.signature(method));
            }
        }
        due.holds("each call is made in the run of README.md: " + called, called.equals(names));
        due.holds("the calls of README.md are those of the face: " + told, told.equals(face));
        due.end();
    }

    private void call(String line) throws ReflectiveOperationException {
        Matcher call = CALL.matcher(line);
        if (!call.matches()) {
            due.holds(line + " has an answer", false);
            return;
        }
        Object answer = answer(call.group(1), call.group(2).isEmpty() ? new String[0] : call.group(2).split(", "));
        long got = answer instanceof Boolean yes ? (yes ? 1 : 0) : ((Number) answer).longValue();
        due.is(line, got, number(call.group(3)));
        due.holds(line + " tells a boolean where one is answered",
                answer instanceof Boolean == call.group(3).matches("true|false"));
        called.add(call.group(1));
    }

    private Object answer(String name, String[] arguments) throws ReflectiveOperationException {
        for (Method method : MergeVault.class.getMethods()) {
            if (method.getName().equals(name)) {
                Class<?>[] types = method.getParameterTypes();
                Object[] values = new Object[types.length];
                for (int i = 0; i < types.length; i++) {
                    values[i] = value(types[i], arguments[i]);
                }
                return method.invoke(vault, values);
            }
        }
        throw new NoSuchMethodException(name);
    }

    private static Object value(Class<?> type, String text) {
        if (type == boolean.class) {
            return Boolean.valueOf(text);
        }
        return type == int.class ? (Object) Integer.valueOf(text) : (Object) Long.valueOf(text);
    }

    /** Of true or false, a number, a constant, or a constant less a number. */
    private static long number(String text) throws ReflectiveOperationException {
        if (text.equals("true") || text.equals("false")) {
            return text.equals("true") ? 1 : 0;
        }
        if (!Character.isLetter(text.charAt(0))) {
            return Long.parseLong(text);
        }
        String[] parts = text.split(" - ");
        int constant = MergeVault.class.getField(parts[0]).getInt(null);
        return parts.length == 1 ? constant : constant - Long.parseLong(parts[1]);
    }
}

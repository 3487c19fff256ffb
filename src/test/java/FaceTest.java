import java.lang.reflect.Field;
import java.lang.reflect.Method;
import java.lang.reflect.Modifier;
import java.util.Arrays;
import java.util.Set;
import java.util.TreeSet;

/** The public face of the document, and the rules of LANGUAGE.md that can be seen on the class. */
public final class FaceTest {
    private static final Set<String> FACE = new TreeSet<>(Arrays.asList(
            "int change(int, int, long)", "boolean fork(int, int)", "boolean swap(int, int, int)",
            "int merge(int, int)", "boolean watch(int, boolean)", "int head(int)", "int commits()",
            "int parent(int, int)", "int ancestors(int)", "int meet(int, int, int)", "long value(int, int)",
            "int queued(int, int)", "int time(int)", "long hash(int)", "int events()", "int event(int)"));

    public static void main(String[] args) {
        Due due = new Due("FaceTest");
        Class<?> vault = MergeVault.class;
        due.holds("the class is public and final and no more",
                vault.getModifiers() == (Modifier.PUBLIC | Modifier.FINAL));
        due.holds("the class has no package", vault.getPackageName().isEmpty());
        due.holds("there is one constructor, a public one without arguments",
                vault.getDeclaredConstructors().length == 1 && vault.getConstructors().length == 1
                        && vault.getConstructors()[0].getParameterCount() == 0);
        constants(due);
        methods(due, vault);
        fields(due, vault);
        nested(due, vault);
        due.end();
    }

    private static void constants(Due due) {
        due.is("BAD", MergeVault.BAD, -1);
        due.is("FULL", MergeVault.FULL, -2);
        due.is("UNFIT", MergeVault.UNFIT, -3);
        due.is("CONFLICT", MergeVault.CONFLICT, -10);
    }

    private static void methods(Due due, Class<?> vault) {
        Set<String> found = new TreeSet<>();
        Set<String> names = new TreeSet<>();
        for (Method method : vault.getDeclaredMethods()) {
            if (!Modifier.isPrivate(method.getModifiers())) {
                due.holds(method + " is public and no more", method.getModifiers() == Modifier.PUBLIC);
                found.add(signature(method));
                names.add(method.getName());
            }
        }
        due.holds("the methods are those of the document: " + found, found.equals(FACE));
        for (Class<?> type : allOf(vault)) {
            for (Method method : type.getDeclaredMethods()) {
                due.holds(method + " is no private one with a public one's name",
                        !Modifier.isPrivate(method.getModifiers()) || !names.contains(method.getName()));
                due.holds(method + " has at most seven parameters", method.getParameterCount() <= 7);
            }
        }
    }

    static String signature(Method method) {
        String parameters = Arrays.toString(method.getParameterTypes());
        return method.getReturnType() + " " + method.getName() + "("
                + parameters.substring(1, parameters.length() - 1) + ")";
    }

    private static void fields(Due due, Class<?> vault) {
        int constants = Modifier.PUBLIC | Modifier.STATIC | Modifier.FINAL;
        for (Field field : vault.getDeclaredFields()) {
            boolean open = !Modifier.isPrivate(field.getModifiers());
            due.holds(field + " is private or a constant of the document",
                    !open || field.getModifiers() == constants && field.getType() == int.class);
        }
        due.is("the number of public fields", vault.getFields().length, 4);
        for (Class<?> type : allOf(vault)) {
            for (Field field : type.getDeclaredFields()) {
                due.holds(field + " is no static state",
                        !Modifier.isStatic(field.getModifiers()) || Modifier.isFinal(field.getModifiers()));
            }
        }
    }

    private static void nested(Due due, Class<?> vault) {
        Class<?>[] classes = vault.getDeclaredClasses();
        due.holds("there are at most twelve classes", classes.length < 12);
        for (Class<?> type : classes) {
            int modifiers = type.getModifiers();
            due.holds(type + " is static and neither public nor protected", Modifier.isStatic(modifiers)
                    && !Modifier.isPublic(modifiers) && !Modifier.isProtected(modifiers));
        }
    }

    private static Class<?>[] allOf(Class<?> vault) {
        Class<?>[] nested = vault.getDeclaredClasses();
        Class<?>[] all = Arrays.copyOf(nested, nested.length + 1);
        all[nested.length] = vault;
        return all;
    }
}

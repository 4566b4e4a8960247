import java.lang.reflect.Constructor;
import java.lang.reflect.Field;
import java.lang.reflect.Method;
import java.lang.reflect.Modifier;
import java.util.Arrays;
import java.util.Set;
import java.util.TreeSet;

/** The public face: just what the document lists, and nothing more to be seen. */
public final class FaceTest {
    private static final Check CHECK = new Check();

    public static void main(String[] args) {
        constants();
        methods();
        nothingElseVisible();
        CHECK.finish();
    }

    private static void constants() {
        CHECK.part("constants");
        CHECK.due("BAD", TornBackups.BAD, -1);
        CHECK.due("FULL", TornBackups.FULL, -2);
        CHECK.due("NONE", TornBackups.NONE, -3);
        CHECK.due("EARLY", TornBackups.EARLY, -4);
        CHECK.due("BETWEEN", TornBackups.BETWEEN, -5);
        CHECK.due("MISSING", TornBackups.MISSING, -6);
    }

    private static void methods() {
        CHECK.part("methods");
        Set<String> want = new TreeSet<>(Arrays.asList(
            "int set(int, int, int)", "int commit(int)", "int abort(int)", "int get(int)", "int sync()",
            "int flush(int)", "int checkpoint()", "int crash()", "int backup()", "int copy()",
            "boolean forget(int)", "int bound(int, int)", "int archive()", "boolean drop(int)",
            "int restore(int, int)", "int restored(int)", "int replayed()", "int reach(int)",
            "int position()", "int dirty()"));
        Set<String> got = new TreeSet<>();
        for (Method method : TornBackups.class.getDeclaredMethods()) {
            if (Modifier.isPublic(method.getModifiers())) {
                got.add(signature(method));
            }
        }
        for (String line : want) {
            CHECK.due(line + " is there", got.contains(line), true);
        }
        for (String line : got) {
            CHECK.due(line + " is in the document", want.contains(line), true);
        }
    }

    private static String signature(Method method) {
        StringBuilder text = new StringBuilder();
        text.append(method.getReturnType()).append(' ').append(method.getName()).append('(');
        String comma = "";
        for (Class<?> type : method.getParameterTypes()) {
            text.append(comma).append(type);
            comma = ", ";
        }
        return text.append(')').toString();
    }

    private static void nothingElseVisible() {
        CHECK.part("visible");
        int kind = TornBackups.class.getModifiers();
        CHECK.due("public final class", Modifier.isPublic(kind) && Modifier.isFinal(kind), true);
        CHECK.due("constructors", TornBackups.class.getDeclaredConstructors().length, 1);
        for (Constructor<?> constructor : TornBackups.class.getDeclaredConstructors()) {
            CHECK.due("public constructor", Modifier.isPublic(constructor.getModifiers()), true);
            CHECK.due("its parameters", constructor.getParameterCount(), 0);
        }
        Set<String> names = new TreeSet<>();
        for (Method method : TornBackups.class.getDeclaredMethods()) {
            boolean visible = !Modifier.isPrivate(method.getModifiers());
            CHECK.due(method + " public or private", visible, Modifier.isPublic(method.getModifiers()));
            CHECK.due(method + " has a name of its own", names.add(method.getName()), true);
        }
        for (Field field : TornBackups.class.getDeclaredFields()) {
            int modifiers = field.getModifiers();
            boolean constant = Modifier.isPublic(modifiers) && Modifier.isStatic(modifiers) && Modifier.isFinal(modifiers);
            CHECK.due(field + " constant or private", constant || Modifier.isPrivate(modifiers), true);
        }
        for (Class<?> inside : TornBackups.class.getDeclaredClasses()) {
            CHECK.due(inside + " static", Modifier.isStatic(inside.getModifiers()), true);
            CHECK.due(inside + " not public", Modifier.isPublic(inside.getModifiers()), false);
        }
    }
}

import java.lang.reflect.Constructor;
import java.lang.reflect.Field;
import java.lang.reflect.Method;
import java.lang.reflect.Modifier;
import java.util.ArrayList;
import java.util.Arrays;
import java.util.List;
import java.util.TreeSet;

/** "The public face": what the class shows, and that it shows nothing else (LANGUAGE.md, rules 1, 2, 5, 11). */
public final class FaceTest {
    private static final Check CHECK = new Check("FaceTest");
    private static final String[] FACE = {
        "boolean deal(long)", "boolean discard(int, boolean)", "boolean pass()", "boolean run(int, int)",
        "boolean three(int)", "boolean four(int)", "boolean hide(int)", "boolean add(int)", "boolean win()",
        "boolean claim(int)", "boolean nine()", "int hand(int, int)", "int laid(int, int, int)",
        "int river(int, int) throws NoSuchElementException", "long waits(int)", "int seat(int, int)",
        "int won(int, int)", "long forms(int)", "int count(int)", "int wall(int) throws NoSuchElementException",
        "void clear()", "boolean lay(int, int)", "boolean set(int, int)",
        "int worth(int, boolean, long, int, int)", "int desk(int)", "long deskForms()", "long deskWaits()",
    };
    private static final int MOST_CLASSES = 12;
    private static final int MOST_FIELDS = 20;
    private static final int MOST_PARAMETERS = 7;

    public static void main(String[] args) {
        theClass();
        publicMethods();
        nothingElseIsVisible();
        classesInside();
        for (Class<?> one : allClasses()) {
            privateNames(one);
            staticFields(one);
            sizes(one);
        }
        CHECK.end();
    }

    private static List<Class<?>> allClasses() {
        List<Class<?>> all = new ArrayList<>(List.of(TileHouse.class));
        all.addAll(Arrays.asList(TileHouse.class.getDeclaredClasses()));
        return all;
    }

    private static void theClass() {
        int modifiers = TileHouse.class.getModifiers();
        CHECK.yes("public final class", Modifier.isPublic(modifiers) && Modifier.isFinal(modifiers));
        CHECK.yes("no package", TileHouse.class.getPackageName().isEmpty());
        CHECK.yes("no class above it", TileHouse.class.getSuperclass() == Object.class);
        CHECK.due("interfaces", TileHouse.class.getInterfaces().length, 0);
        Constructor<?>[] made = TileHouse.class.getDeclaredConstructors();
        CHECK.due("constructors", made.length, 1);
        CHECK.yes("public TileHouse()", Modifier.isPublic(made[0].getModifiers())
            && made[0].getParameterCount() == 0 && made[0].getExceptionTypes().length == 0);
    }

    private static String text(Method method) {
        List<String> types = new ArrayList<>();
        for (Class<?> type : method.getParameterTypes()) {
            types.add(type.getSimpleName());
        }
        StringBuilder text = new StringBuilder(method.getReturnType().getSimpleName()).append(' ')
            .append(method.getName()).append('(').append(String.join(", ", types)).append(')');
        for (Class<?> thrown : method.getExceptionTypes()) {
            text.append(" throws ").append(thrown.getSimpleName());
        }
        return text.toString();
    }

    private static void publicMethods() {
        TreeSet<String> shown = new TreeSet<>();
        for (Method method : TileHouse.class.getDeclaredMethods()) {
            if (!Modifier.isPrivate(method.getModifiers())) {
                shown.add(text(method));
                int modifiers = method.getModifiers();
                CHECK.yes("public, not static: " + text(method),
                    Modifier.isPublic(modifiers) && !Modifier.isStatic(modifiers));
            }
        }
        for (String wanted : FACE) {
            CHECK.yes(wanted, shown.remove(wanted));
        }
        CHECK.yes("visible methods beside the face: " + shown, shown.isEmpty());
    }

    private static void nothingElseIsVisible() {
        for (Field field : TileHouse.class.getDeclaredFields()) {
            int modifiers = field.getModifiers();
            boolean constant = field.getName().equals("NONE") && field.getType() == int.class
                && Modifier.isPublic(modifiers) && Modifier.isStatic(modifiers) && Modifier.isFinal(modifiers);
            CHECK.yes("field " + field.getName(), constant || Modifier.isPrivate(modifiers));
        }
        CHECK.due("public fields", TileHouse.class.getFields().length, 1);
        CHECK.due("NONE", TileHouse.NONE, -1);
    }

    private static void classesInside() {
        Class<?>[] inside = TileHouse.class.getDeclaredClasses();
        CHECK.yes("classes " + (inside.length + 1), inside.length + 1 <= MOST_CLASSES);
        for (Class<?> one : inside) {
            int modifiers = one.getModifiers();
            CHECK.yes("static: " + one.getName(), Modifier.isStatic(modifiers));
            CHECK.no("public or protected: " + one.getName(),
                Modifier.isPublic(modifiers) || Modifier.isProtected(modifiers));
            CHECK.due("classes in " + one.getName(), one.getDeclaredClasses().length, 0);
        }
    }

    private static void privateNames(Class<?> one) {
        for (Method method : one.getDeclaredMethods()) {
            boolean likeAPublicOne = false;
            for (Method shown : TileHouse.class.getMethods()) {
                likeAPublicOne |= shown.getName().equals(method.getName());
            }
            CHECK.no("private method with a public name: " + method.getName(),
                Modifier.isPrivate(method.getModifiers()) && likeAPublicOne);
        }
    }

    private static void staticFields(Class<?> one) {
        List<Class<?>> allowed = List.of(int.class, long.class, boolean.class, char.class, String.class,
            int[].class, long[].class, char[].class, byte[].class);
        for (Field field : one.getDeclaredFields()) {
            if (Modifier.isStatic(field.getModifiers())) {
                CHECK.yes("static field " + field.getName(),
                    Modifier.isFinal(field.getModifiers()) && allowed.contains(field.getType()));
            }
        }
    }

    private static void sizes(Class<?> one) {
        int fields = 0;
        for (Field field : one.getDeclaredFields()) {
            fields += Modifier.isStatic(field.getModifiers()) ? 0 : 1;
        }
        CHECK.yes(one.getName() + " has " + fields + " fields", fields <= MOST_FIELDS);
        for (Method method : one.getDeclaredMethods()) {
            CHECK.yes("parameters of " + method.getName(), method.getParameterCount() <= MOST_PARAMETERS);
        }
    }
}

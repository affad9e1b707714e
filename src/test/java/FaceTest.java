import java.lang.reflect.Constructor;
import java.lang.reflect.Field;
import java.lang.reflect.Method;
import java.lang.reflect.Modifier;
import java.util.Arrays;
import java.util.List;
import java.util.Set;
import java.util.TreeSet;

/** The public face of the document, and nothing beside it that others could see. */
final class FaceTest {
    private static final Check CHECK = new Check("The public face");

    private FaceTest() {
    }

    public static void main(String[] args) throws IllegalAccessException {
        constants();
        constructor();
        methods();
        inside();
        CHECK.end();
    }

    private static void same(String what, Set<String> got, Set<String> want) {
        boolean same = got.equals(want);
        CHECK.due(what + (same ? "" : ": " + got + " for " + want), same ? 1 : 0, 1);
    }

    private static void constants() throws IllegalAccessException {
        Set<String> got = new TreeSet<>();
        for (Field field : RadioPair.class.getDeclaredFields()) {
            if (!Modifier.isPrivate(field.getModifiers())) {
                got.add(Modifier.toString(field.getModifiers()) + " " + field.getType() + " " + field.getName()
                    + " " + field.getInt(null));
            }
        }
        List<String> named = List.of("REFUSED -1", "FULL -2", "SILENT 0", "POLL 1", "IDLE 2", "GUARDED 3",
            "PLAIN 4", "LOST 5", "TAKEN 6", "BAD 7", "AGAIN 8", "HEAD 9");
        Set<String> want = new TreeSet<>();
        named.forEach(name -> want.add("public static final int " + name));
        same("the constants", got, want);
    }

    private static void constructor() {
        Set<String> got = new TreeSet<>();
        for (Constructor<?> made : RadioPair.class.getDeclaredConstructors()) {
            got.add(Modifier.toString(made.getModifiers()) + " " + Arrays.toString(made.getParameterTypes()));
        }
        same("the constructor", got, Set.of("public [int]"));
    }

    private static void methods() {
        Set<String> got = new TreeSet<>();
        for (Method method : RadioPair.class.getDeclaredMethods()) {
            if (!Modifier.isPrivate(method.getModifiers()) && !method.isSynthetic()) {
                got.add(Modifier.toString(method.getModifiers()) + " " + method.getReturnType() + " "
                    + method.getName() + Arrays.toString(method.getParameterTypes()));
            }
        }
        List<String> named = List.of("guard[int, boolean]", "write[int, int]", "send[int]", "slot[]", "air[int]",
            "flip[int]", "hear[]", "read[int, int]", "next[int]", "state[int, int]", "count[int]");
        Set<String> want = new TreeSet<>();
        named.forEach(name -> want.add("public int " + name));
        same("the methods", got, want);
    }

    /** Rules 1, 2, 5 and 11 of LANGUAGE.md, as far as reflection shows them. */
    private static void inside() {
        CHECK.due("RadioPair is final", RadioPair.class.getModifiers(), Modifier.PUBLIC | Modifier.FINAL);
        Class<?>[] inner = RadioPair.class.getDeclaredClasses();
        CHECK.due("some twelve classes", inner.length < 12 ? 1 : 0, 1);
        for (Class<?> one : inner) {
            CHECK.due(one + " is static", Modifier.isStatic(one.getModifiers()) ? 1 : 0, 1);
            CHECK.due(one + " is not public", Modifier.isPublic(one.getModifiers()) ? 1 : 0, 0);
            CHECK.due(one + " has few fields", one.getDeclaredFields().length <= 20 ? 1 : 0, 1);
            for (Method method : one.getDeclaredMethods()) {
                for (Method face : RadioPair.class.getDeclaredMethods()) {
                    boolean clash = Modifier.isPublic(face.getModifiers()) && face.getName().equals(method.getName());
                    CHECK.due(method + " bears a public name", clash ? 1 : 0, 0);
                }
            }
            for (Field field : one.getDeclaredFields()) {
                CHECK.due(field + " is static", Modifier.isStatic(field.getModifiers()) ? 1 : 0, 0);
            }
        }
        for (Field field : RadioPair.class.getDeclaredFields()) {
            int mods = field.getModifiers();
            CHECK.due(field + " is free static state",
                Modifier.isStatic(mods) && !Modifier.isFinal(mods) ? 1 : 0, 0);
        }
    }
}

import java.lang.reflect.Constructor;
import java.lang.reflect.Field;
import java.lang.reflect.Method;
import java.lang.reflect.Modifier;
import java.util.ArrayList;
import java.util.HashSet;
import java.util.List;
import java.util.Set;
import java.util.TreeSet;

/** The public face as the document writes it, and promise 1. */
final class FaceTest {
    private static final String[] METHODS = {
        "int fetch(int, int, int, int) IndexOutOfBoundsException IllegalArgumentException",
        "int pass(int) IllegalArgumentException",
        "boolean pin(int, boolean) IndexOutOfBoundsException IllegalStateException",
        "int drop(int) IndexOutOfBoundsException IllegalStateException",
        "int purge()",
        "int setCapacity(int) IllegalArgumentException IllegalStateException",
        "int setThreshold(int) IllegalArgumentException",
        "boolean has(int) IndexOutOfBoundsException",
        "boolean isOver(int) IndexOutOfBoundsException",
        "int sizeOf(int) IndexOutOfBoundsException",
        "int frequencyOf(int) IndexOutOfBoundsException",
        "long worthOf(int) IndexOutOfBoundsException",
        "int endOf(int) IndexOutOfBoundsException",
        "int leaving(int) IndexOutOfBoundsException",
        "int placeOf(int) IndexOutOfBoundsException",
        "int endsFirst()",
        "int wouldLeave(int) IllegalArgumentException",
        "int time()",
        "long clock()",
        "int capacity()",
        "int entries()",
        "int used()",
        "int hits()",
        "int misses()",
        "long bytesHit()",
        "long saved()",
        "long paid()",
        "int left()",
        "int removedOver()",
    };

    static void run(Checks checks) {
        checks.test("the public face: constants", () -> constants(checks));
        checks.test("the public face: the constructor", () -> constructor(checks));
        checks.test("the public face: methods", () -> methods(checks));
        checks.test("the public face: nothing else is visible", () -> nothingElse(checks));
        newObject(checks);
        checks.test("promise 1: objects share nothing", () -> twoObjects(checks));
    }

    private static void constants(Checks checks) {
        constant(checks, "NONE", -1);
        constant(checks, "HIT", 0);
        constant(checks, "LET_IN", 1);
        constant(checks, "KEPT_OUT", 2);
    }

    private static void constant(Checks checks, String name, int value) {
        try {
            Field field = WorthCache.class.getDeclaredField(name);
            checks.same("the type of " + name, field.getType().getName(), "int");
            checks.same(name + " is", Modifier.toString(field.getModifiers()), "public static final");
            checks.due(name, field.getInt(null), value);
        } catch (ReflectiveOperationException e) {
            throw new IllegalStateException("no constant " + name, e);
        }
    }

    private static void constructor(Checks checks) {
        List<String> got = new ArrayList<>();
        for (Constructor<?> one : WorthCache.class.getDeclaredConstructors()) {
            got.add(one.toString());
        }
        checks.same("the constructors", String.join("\n", got), "public WorthCache()");
    }

    private static void methods(Checks checks) {
        Set<String> got = new TreeSet<>();
        for (Method method : WorthCache.class.getDeclaredMethods()) {
            if (Modifier.isPublic(method.getModifiers())) {
                got.add(written(method));
            }
        }
        checks.same("the face", String.join("\n", got), String.join("\n", new TreeSet<>(Set.of(METHODS))));
    }

    private static String written(Method method) {
        StringBuilder text = new StringBuilder();
        if (method.getModifiers() != Modifier.PUBLIC) {
            text.append(Modifier.toString(method.getModifiers())).append(' ');
        }
        text.append(method.getReturnType()).append(' ').append(method.getName()).append('(');
        for (int i = 0; i < method.getParameterCount(); i++) {
            text.append(i == 0 ? "" : ", ").append(method.getParameterTypes()[i]);
        }
        text.append(')');
        for (Class<?> thrown : method.getExceptionTypes()) {
            text.append(' ').append(thrown.getSimpleName());
        }
        return text.toString();
    }

    private static void nothingElse(Checks checks) {
        checks.same("the class is", WorthCache.class.toGenericString(), "public final class WorthCache");
        checks.same("it extends", WorthCache.class.getSuperclass().getName(), "java.lang.Object");
        checks.due("its interfaces", WorthCache.class.getInterfaces().length, 0);
        checks.due("its public classes", WorthCache.class.getClasses().length, 0);
        checks.due("its protected classes", protectedClasses(), 0);
        fields(checks);
        names(checks);
    }

    private static int protectedClasses() {
        int count = 0;
        for (Class<?> inside : WorthCache.class.getDeclaredClasses()) {
            count += Modifier.isProtected(inside.getModifiers()) ? 1 : 0;
        }
        return count;
    }

    private static void fields(Checks checks) {
        Set<String> face = new HashSet<>(Set.of("NONE", "HIT", "LET_IN", "KEPT_OUT"));
        for (Field field : WorthCache.class.getDeclaredFields()) {
            boolean isPrivate = Modifier.isPrivate(field.getModifiers());
            checks.due(field.getName() + " is private", isPrivate, !face.contains(field.getName()));
        }
    }

    private static void names(Checks checks) {
        Set<String> publicNames = new HashSet<>();
        for (Method method : WorthCache.class.getDeclaredMethods()) {
            if (Modifier.isPublic(method.getModifiers())) {
                publicNames.add(method.getName());
            }
        }
        for (Method method : WorthCache.class.getDeclaredMethods()) {
            if (!Modifier.isPublic(method.getModifiers())) {
                checks.due(method + " is private", Modifier.isPrivate(method.getModifiers()), true);
                checks.due(method + " has a name of its own", publicNames.contains(method.getName()), false);
            }
        }
    }

    private static void newObject(Checks checks) {
        checks.script("promise 1: a new object has no entries", """
                all: has(#) = false
                all: isOver(#) = false
                all: sizeOf(#) = 0
                all: frequencyOf(#) = 0
                all: worthOf(#) = NONE
                all: endOf(#) = NONE
                all: placeOf(#) = NONE
                all: leaving(#) = throws.IndexOutOfBoundsException
                endsFirst() = NONE
                entries() = 0
                used() = 0
                purge() = 0
                """);
        checks.script("promise 1: a new object's accounts are 0", """
                time() = 0
                clock() = 0
                hits() = 0
                misses() = 0
                bytesHit() = 0
                saved() = 0
                paid() = 0
                left() = 0
                removedOver() = 0
                """);
        checks.script("promise 1: a new object has a capacity of 100 and a threshold of 1000", """
                capacity() = 100
                wouldLeave(100) = 0
                wouldLeave(101) = NONE
                setThreshold(1) = 1000
                """);
    }

    private static void twoObjects(Checks checks) {
        WorthCache one = new WorthCache();
        WorthCache other = new WorthCache();
        one.setCapacity(200);
        one.fetch(0, 150, 5, 10);
        one.fetch(0, 150, 5, 10);
        one.fetch(1, 60, 5, 10);
        one.pass(3);
        one.setThreshold(5);
        checks.due("has(1)", other.has(1), false);
        checks.due("time()", other.time(), 0);
        checks.due("clock()", other.clock(), 0);
        checks.due("capacity()", other.capacity(), 100);
        checks.due("hits()", other.hits(), 0);
        checks.due("misses()", other.misses(), 0);
        checks.due("left()", other.left(), 0);
        checks.due("setThreshold(7)", other.setThreshold(7), 1000);
        checks.due("fetch(0, 8, 1, 5)", other.fetch(0, 8, 1, 5), WorthCache.KEPT_OUT);
    }
}

import java.lang.reflect.Field;
import java.lang.reflect.Method;
import java.lang.reflect.Modifier;
import java.util.HashSet;
import java.util.Set;
import java.util.TreeSet;

/** The public face as the document writes it, and promise 1. */
final class FaceTest {
    private static final String[] METHODS = {
        "int fetch(int, int, int, int) IndexOutOfBoundsException IllegalArgumentException",
        "int pass(int) IllegalArgumentException",
        "boolean pin(int, boolean) IndexOutOfBoundsException IllegalStateException",
        "int drop(int) IndexOutOfBoundsException IllegalStateException",
        "int purge()",
        "int setCapacity(int) IllegalArgumentException IllegalStateException",
        "int setThreshold(int) IllegalArgumentException",
        "boolean has(int) IndexOutOfBoundsException",
        "boolean isOver(int) IndexOutOfBoundsException",
        "int sizeOf(int) IndexOutOfBoundsException",
        "int frequencyOf(int) IndexOutOfBoundsException",
        "long worthOf(int) IndexOutOfBoundsException",
        "int endOf(int) IndexOutOfBoundsException",
        "int leaving(int) IndexOutOfBoundsException",
        "int placeOf(int) IndexOutOfBoundsException",
        "int endsFirst()",
        "int wouldLeave(int) IllegalArgumentException",
        "int time()",
        "long clock()",
        "int capacity()",
        "int entries()",
        "int used()",
        "int hits()",
        "int misses()",
        "long bytesHit()",
        "long saved()",
        "long paid()",
        "int left()",
        "int removedOver()",
    };

    static void run(Checks checks) {
        checks.test("face: constants", () -> constants(checks));
        checks.test("face: methods", () -> methods(checks));
        checks.test("face: nothing else is visible", () -> nothingElse(checks));
        checks.test("promise 1: a new object is empty", () -> newObject(checks));
        checks.test("promise 1: objects share nothing", () -> twoObjects(checks));
    }

    private static void constants(Checks checks) {
        checks.due("NONE", WorthCache.NONE, -1);
        checks.due("HIT", WorthCache.HIT, 0);
        checks.due("LET_IN", WorthCache.LET_IN, 1);
        checks.due("KEPT_OUT", WorthCache.KEPT_OUT, 2);
        checks.due("public final", WorthCache.class.getModifiers(), Modifier.PUBLIC | Modifier.FINAL);
    }

    private static void methods(Checks checks) {
        Set<String> got = new TreeSet<>();
        for (Method method : WorthCache.class.getDeclaredMethods()) {
            if (Modifier.isPublic(method.getModifiers())) {
                got.add(written(method));
            }
        }
        checks.same("the face", String.join("\n", got), String.join("\n", new TreeSet<>(Set.of(METHODS))));
    }

    private static String written(Method method) {
        StringBuilder text = new StringBuilder();
        text.append(method.getReturnType()).append(' ').append(method.getName()).append('(');
        for (int i = 0; i < method.getParameterCount(); i++) {
            text.append(i == 0 ? "" : ", ").append(method.getParameterTypes()[i]);
        }
        text.append(')');
        for (Class<?> thrown : method.getExceptionTypes()) {
            text.append(' ').append(thrown.getSimpleName());
        }
        return text.toString();
    }

    private static void nothingElse(Checks checks) {
        Set<String> face = new HashSet<>(Set.of("NONE", "HIT", "LET_IN", "KEPT_OUT"));
        for (Field field : WorthCache.class.getDeclaredFields()) {
            boolean isPrivate = Modifier.isPrivate(field.getModifiers());
            checks.due(field.getName() + " is private", isPrivate, !face.contains(field.getName()));
        }
        Set<String> publicNames = new HashSet<>();
        for (Method method : WorthCache.class.getDeclaredMethods()) {
            if (Modifier.isPublic(method.getModifiers())) {
                publicNames.add(method.getName());
            }
        }
        for (Method method : WorthCache.class.getDeclaredMethods()) {
            if (!Modifier.isPublic(method.getModifiers())) {
                checks.due(method + " is private", Modifier.isPrivate(method.getModifiers()), true);
                checks.due(method + " has a name of its own", publicNames.contains(method.getName()), false);
            }
        }
    }

    private static void newObject(Checks checks) {
        WorthCache cache = new WorthCache();
        checks.same("a new cache", Checks.state(cache), "time 0 clock 0 capacity 100 entries 0 used 0"
                + " hits 0 misses 0 bytesHit 0 saved 0 paid 0 left 0 removedOver 0 endsFirst -1");
        checks.due("setThreshold(1000)", cache.setThreshold(1000), 1000);
    }

    private static void twoObjects(Checks checks) {
        WorthCache one = new WorthCache();
        WorthCache other = new WorthCache();
        String empty = Checks.state(other);
        one.fetch(0, 10, 5, 10);
        one.pass(3);
        one.setThreshold(5);
        checks.same("the other cache", Checks.state(other), empty);
        checks.due("setThreshold(7)", other.setThreshold(7), 1000);
    }
}

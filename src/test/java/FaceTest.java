import java.lang.reflect.Constructor;
import java.lang.reflect.Field;
import java.lang.reflect.Method;
import java.lang.reflect.Modifier;
import java.util.ArrayList;
import java.util.Arrays;
import java.util.List;
import java.util.Set;
import java.util.TreeSet;
import java.util.regex.Matcher;
import java.util.regex.Pattern;
import java.util.stream.Collectors;

/** The public face as the document writes it, and that no call throws. */
public final class FaceTest {
    private static final Check check = new Check("FaceTest");

    public static void main(String[] args) {
        methods(documentedMethods(Document.text()));
        constants();
        others();
        neverThrows();
        check.end();
    }

    private static Set<String> documentedMethods(String document) {
        Set<String> found = new TreeSet<>();
        Matcher line = Pattern.compile("    public (int|long) (\\w+)\\(([^)]*)\\);").matcher(document);
        while (line.find()) {
            String types = Arrays.stream(line.group(3).split(", *")).map(part -> part.split(" ")[0])
                .collect(Collectors.joining(","));
            found.add(line.group(1) + " " + line.group(2) + "(" + types + ")");
        }
        return found;
    }

    private static String written(Method method) {
        String types = Arrays.stream(method.getParameterTypes()).map(Class::getName).collect(Collectors.joining(","));
        return method.getReturnType().getName() + " " + method.getName() + "(" + types + ")";
    }

    private static void methods(Set<String> face) {
        check.holds("the document has 33 methods", face.size() == 33);
        Set<String> found = new TreeSet<>();
        for (Method method : DigestCaches.class.getDeclaredMethods()) {
            int modifiers = method.getModifiers();
            if (Modifier.isPublic(modifiers)) {
                found.add(written(method));
                check.holds(method + " is not static", !Modifier.isStatic(modifiers));
            } else {
                check.holds(method + " is private", Modifier.isPrivate(modifiers));
            }
        }
        check.holds("the public methods are " + face + ", not " + found, face.equals(found));
    }

    private static void constants() {
        check.due("NONE", DigestCaches.NONE, -1);
        check.due("BAD_INDEX", DigestCaches.BAD_INDEX, -2);
        check.due("BAD_VALUE", DigestCaches.BAD_VALUE, -3);
        check.due("BAD_STATE", DigestCaches.BAD_STATE, -4);
        check.due("FULL", DigestCaches.FULL, -5);
        List<String> names = new ArrayList<>();
        for (Field field : DigestCaches.class.getDeclaredFields()) {
            if (!Modifier.isPrivate(field.getModifiers())) {
                names.add(field.getName());
            }
        }
        check.holds("no other field is seen: " + names,
            names.equals(List.of("NONE", "BAD_INDEX", "BAD_VALUE", "BAD_STATE", "FULL")));
    }

    private static void others() {
        check.holds("the class is public and final",
            DigestCaches.class.getModifiers() == (Modifier.PUBLIC | Modifier.FINAL));
        Constructor<?>[] made = DigestCaches.class.getDeclaredConstructors();
        check.holds("one constructor", made.length == 1);
        check.holds("it is public", Modifier.isPublic(made[0].getModifiers()));
        check.holds("it takes nothing", made[0].getParameterCount() == 0);
    }

    /** Every method with every mix of extreme arguments, on objects in several states. */
    private static void neverThrows() {
        int[] extremes = {Integer.MIN_VALUE, -1000, -1, 0, 1, 4, 5, 8, 63, 64, 65, 99, 100, 999, 1000, 1001,
            Integer.MAX_VALUE};
        for (Method method : DigestCaches.class.getDeclaredMethods()) {
            if (Modifier.isPublic(method.getModifiers())) {
                Class<?>[] types = method.getParameterTypes();
                int mixes = (int) Math.pow(extremes.length, types.length);
                DigestCaches x = filled();
                for (int mix = 0; mix < mixes; mix++) {
                    // A new object before its calls are too many.
                    x = mix % 300 == 299 ? filled() : x;
                    call(x, method, types, extremes, mix);
                }
            }
        }
    }

    private static DigestCaches filled() {
        DigestCaches x = new DigestCaches();
        for (int cache = 0; cache < 5; cache++) {
            x.setCapacity(cache, 16 - cache);
            for (int object = 0; object < 18; object++) {
                x.store(cache, object + cache);
            }
            x.publish(cache);
        }
        return Check.typed(x, "0:999,1;4:0");
    }

    private static void call(DigestCaches x, Method method, Class<?>[] types, int[] extremes, int mix) {
        Object[] arguments = new Object[types.length];
        int left = mix;
        for (int i = 0; i < types.length; i++) {
            int extreme = extremes[left % extremes.length];
            left /= extremes.length;
            arguments[i] = types[i] == boolean.class ? (Object) (extreme > 0) : (Object) extreme;
        }
        try {
            method.invoke(x, arguments);
        } catch (ReflectiveOperationException thrown) {
            check.holds(method.getName() + Arrays.toString(arguments) + " threw " + thrown.getCause(), false);
        }
    }
}

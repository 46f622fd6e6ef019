import java.lang.reflect.Method;
import java.util.Arrays;

/** Calls by name, for tests that make the same call on several objects. */
final class Calls {
    private Calls() {
    }

    static long call(Object on, String name, int... with) throws ReflectiveOperationException {
        Class<?>[] types = new Class<?>[with.length];
        Arrays.fill(types, int.class);
        Method method = on.getClass().getDeclaredMethod(name, types);
        return ((Number) method.invoke(on, Arrays.stream(with).boxed().toArray())).longValue();
    }
}

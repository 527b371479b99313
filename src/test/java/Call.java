import java.lang.reflect.Method;
import java.util.Arrays;
import java.util.HashMap;
import java.util.Map;
import java.util.stream.Collectors;

/** A call of a method by its name, so that the same call can be made on a FogMap and on a Reference. */
record Call(String name, int... arguments) {
    private static final Map<Class<?>, Map<String, Method>> METHODS = new HashMap<>();

    static Call of(String name, int... arguments) {
        return new Call(name, arguments);
    }

    int on(Object target) {
        Method method = METHODS.computeIfAbsent(target.getClass(), Call::methodsOf).get(name);
        Object[] boxed = Arrays.stream(arguments).boxed().toArray();
        try {
            return (Integer) method.invoke(target, boxed);
        } catch (ReflectiveOperationException e) {
            throw new IllegalStateException(this + " threw", e.getCause() == null ? e : e.getCause());
        }
    }

    private static Map<String, Method> methodsOf(Class<?> type) {
        Map<String, Method> methods = new HashMap<>();
        for (Method method : type.getDeclaredMethods()) {
            boolean isCall = method.getReturnType() == int.class
                    && Arrays.stream(method.getParameterTypes()).allMatch(t -> t == int.class);
            if (isCall && !java.lang.reflect.Modifier.isPrivate(method.getModifiers())) {
                method.setAccessible(true);
                methods.put(method.getName(), method);
            }
        }
        return methods;
    }

    @Override
    public String toString() {
        return name + Arrays.stream(arguments).mapToObj(Integer::toString)
                .collect(Collectors.joining(", ", "(", ")"));
    }
}

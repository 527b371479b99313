import java.lang.reflect.InvocationTargetException;
import java.lang.reflect.Method;
import java.util.Arrays;
import java.util.Comparator;
import java.util.List;

/** Runs the boundary cases of a class, each a static method that is named after its promise. */
final class Boundaries {
    private Boundaries() {
    }

    static void test(Class<?> type, int first, int last) {
        List<Method> cases = Arrays.stream(type.getDeclaredMethods())
                .filter(method -> method.getName().startsWith("promise") && method.getParameterCount() == 0)
                .sorted(Comparator.comparing(Method::getName)).toList();
        for (int promise = first; promise <= last; promise++) {
            String name = "promise" + promise + "[A-Z].*";
            Checks.equal(name + " has a case", true, cases.stream().anyMatch(m -> m.getName().matches(name)));
        }
        for (Method method : cases) {
            Checks.enter(method.getName());
            run(method);
        }
        Checks.close(type.getSimpleName());
    }

    private static void run(Method method) {
        method.setAccessible(true);
        try {
            method.invoke(null);
        } catch (InvocationTargetException | IllegalAccessException e) {
            throw new IllegalStateException(method.getName() + " threw", e.getCause() == null ? e : e.getCause());
        }
    }

    /** A run with so many scouts and lights, a full history and a full text. */
    static Run crowd(int scouts, int lights) {
        Run run = new Run().does("setWall", 5, 5, 1).does("setHeight", 4, 4, 3);
        for (int i = 0; i < scouts; i++) {
            run.does("addScout", i % 2, i, i % 3, 1 + i % 8);
        }
        for (int i = 0; i < lights; i++) {
            run.does("addLight", 2 * i, 9 - i, i % 5, 3 * i);
        }
        run.does("pass", 2).does("setFogTime", 20).does("pass", 1);
        return run.writes("012345678901;".repeat(9) + "   ");
    }

    /** The greatest crowd: 10 scouts and 6 lights. */
    static Run full() {
        return crowd(10, 6);
    }

    /** A flat map in which one scout stands. */
    static Run scoutAt(int side, int column, int row, int range) {
        return new Run().does("addScout", side, column, row, range);
    }
}

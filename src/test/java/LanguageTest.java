import java.io.IOException;
import java.lang.reflect.Constructor;
import java.lang.reflect.Field;
import java.lang.reflect.Method;
import java.lang.reflect.Modifier;
import java.nio.file.Files;
import java.nio.file.Path;
import java.util.ArrayList;
import java.util.List;
import java.util.Set;
import java.util.TreeSet;

/** The face of the class, and the rules of LANGUAGE.md that a look at the source can tell. */
public final class LanguageTest {
    private static final Path SOURCE = Path.of("src/main/java/FogMap.java");
    private static final Set<String> FACE = Set.of("setHeight/3", "setWall/3", "append/1", "clearText/0", "load/0",
            "addScout/4", "step/3", "removeScout/1", "addLight/4", "setOil/2", "removeLight/1", "setFogTime/1",
            "pass/1", "undo/0", "count/1", "cell/3", "scout/2", "light/2", "known/4", "view/4", "way/3",
            "lookout/2", "alone/1");
    private static final Set<String> CONSTANTS =
            Set.of("INVALID_ARGUMENT", "ILLEGAL_STATE", "CAPACITY_EXCEEDED", "NONE");
    private static final List<String> FORBIDDEN = List.of("throw", "try", "catch", "synchronized", "assert",
            "->", "::", "package", "float", "double", "String", "System.out", "Exact(", "static {", "while (true)");

    private LanguageTest() {
    }

    public static void main(String[] args) throws IOException {
        face();
        nestedClasses();
        source();
        Checks.close("LanguageTest");
    }

    private static void face() {
        Checks.equal("public and final", true, Modifier.isPublic(FogMap.class.getModifiers())
                && Modifier.isFinal(FogMap.class.getModifiers()));
        Set<String> methods = new TreeSet<>();
        for (Method method : FogMap.class.getDeclaredMethods()) {
            if (Modifier.isPrivate(method.getModifiers())) {
                checkPrivateName(method);
            } else if (!method.isSynthetic()) {
                methods.add(method.getName() + "/" + method.getParameterCount());
                Checks.equal(method.getName() + " is public", true, Modifier.isPublic(method.getModifiers()));
                Checks.equal(method.getName() + " answers an int", int.class, method.getReturnType());
            }
        }
        Checks.equal("methods", new TreeSet<>(FACE), methods);
        Set<String> fields = new TreeSet<>();
        for (Field field : FogMap.class.getDeclaredFields()) {
            if (!Modifier.isPrivate(field.getModifiers())) {
                fields.add(field.getName());
            }
        }
        Checks.equal("constants", new TreeSet<>(CONSTANTS), fields);
        Constructor<?>[] constructors = FogMap.class.getDeclaredConstructors();
        Checks.equal("constructors", 1, constructors.length);
        Checks.equal("arguments of the constructor", 0, constructors[0].getParameterCount());
    }

    private static void checkPrivateName(Method method) {
        boolean isTaken = FACE.stream().anyMatch(name -> name.startsWith(method.getName() + "/"));
        Checks.equal(method.getName() + " bears a public method's name", false, isTaken);
    }

    private static void nestedClasses() {
        Class<?>[] nested = FogMap.class.getDeclaredClasses();
        Checks.equal("at most 12 classes", true, nested.length < 12);
        for (Class<?> type : nested) {
            Checks.equal(type + " is static", true, Modifier.isStatic(type.getModifiers()));
            Checks.equal(type + " is private", true, Modifier.isPrivate(type.getModifiers()));
            Checks.equal(type + " has few fields", true, type.getDeclaredFields().length <= 20);
            for (Method method : type.getDeclaredMethods()) {
                checkPrivateName(method);
                Checks.equal(method + " takes few parameters", true, method.getParameterCount() <= 7);
            }
        }
    }

    private static void source() throws IOException {
        List<String> imports = new ArrayList<>();
        for (String line : Files.readAllLines(SOURCE)) {
            if (line.startsWith("import ")) {
                imports.add(line);
            }
            String code = line.strip();
            if (code.startsWith("*") || code.startsWith("/*") || code.startsWith("//")) {
                continue;
            }
            for (String word : FORBIDDEN) {
                Checks.equal("'" + word + "' in " + code, false, code.contains(word));
            }
        }
        Checks.equal("imports", List.of("import java.util.Arrays;"), imports);
    }
}

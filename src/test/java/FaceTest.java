import java.io.IOException;
import java.lang.reflect.Constructor;
import java.lang.reflect.Field;
import java.lang.reflect.Method;
import java.lang.reflect.Modifier;
import java.nio.file.Files;
import java.nio.file.Path;
import java.util.Arrays;
import java.util.Set;
import java.util.TreeSet;
import java.util.regex.Matcher;
import java.util.regex.Pattern;

/** The public face is the document's and nothing more; what lies inside keeps to LANGUAGE.md. */
public final class FaceTest {
    private static final Path DOCUMENT = Path.of("../shared/DOC.md");
    private static final int METHODS = 13;

    private FaceTest() {
    }

    public static void main(String[] args) throws IllegalAccessException, IOException {
        int kind = FleetFloor.class.getModifiers();
        Check.due("the class is public", Modifier.isPublic(kind), true);
        Check.due("the class is final", Modifier.isFinal(kind), true);
        Check.due("the class is in no package", FleetFloor.class.getPackageName().isEmpty(), true);
        String document = Files.readString(DOCUMENT);
        constants(document);
        constructors();
        methods(document);
        classesInside();
        Check.end();
    }

    private static void constants(String document) throws IllegalAccessException {
        Set<String> found = new TreeSet<>();
        for (Field field : FleetFloor.class.getDeclaredFields()) {
            int kind = field.getModifiers();
            if (!Modifier.isPrivate(kind)) {
                Check.due(field + " is a constant", Modifier.isPublic(kind) && Modifier.isStatic(kind)
                        && Modifier.isFinal(kind) && field.getType() == int.class, true);
                found.add(field.getName() + " = " + field.getInt(null));
            }
        }
        same("constants", found, all(document, "(?m)^    public static final int (\\w+ = -?\\d+);$"));
        Check.due("constants of the document", found.size(), 5);
    }

    private static void constructors() {
        Constructor<?>[] found = FleetFloor.class.getDeclaredConstructors();
        Check.due("constructors", found.length, 1);
        Check.due("it is public", Modifier.isPublic(found[0].getModifiers()), true);
        Check.due("it takes nothing", found[0].getParameterCount(), 0);
    }

    private static void methods(String document) {
        Set<String> found = new TreeSet<>();
        Set<String> names = new TreeSet<>();
        for (Method method : FleetFloor.class.getDeclaredMethods()) {
            if (!Modifier.isPrivate(method.getModifiers())) {
                Check.due(method + " is public", Modifier.isPublic(method.getModifiers()), true);
                Check.due(method + " is not static", Modifier.isStatic(method.getModifiers()), false);
                found.add(written(method));
                names.add(method.getName());
            }
        }
        same("methods", found, all(document, "(?m)^    public ((?:int|boolean) \\w+\\(.*);$"));
        Set<String> promised = all(document, "(?m)^`((?:int|boolean) [^`]*)`: ");
        same("methods of the promises", found, promised);
        Check.due("methods of the document", promised.size(), METHODS);
        for (Method method : FleetFloor.class.getDeclaredMethods()) {
            if (Modifier.isPrivate(method.getModifiers())) {
                Check.due("rule 1: private " + method, names.contains(method.getName()), false);
            }
        }
    }

    /** As the document writes it, but without the names of what it takes. */
    private static String written(Method method) {
        StringBuilder text = new StringBuilder();
        text.append(method.getReturnType()).append(' ').append(method.getName());
        String parameters = Arrays.toString(method.getParameterTypes());
        text.append('(').append(parameters, 1, parameters.length() - 1).append(')');
        String join = " throws ";
        for (Class<?> thrown : method.getExceptionTypes()) {
            text.append(join).append(thrown.getSimpleName());
            join = ", ";
        }
        return text.toString();
    }

    /** What the document has where a pattern fits. */
    private static Set<String> all(String document, String pattern) {
        Set<String> texts = new TreeSet<>();
        Matcher found = Pattern.compile(pattern).matcher(document);
        while (found.find()) {
            texts.add(found.group(1).replaceAll("int \\w+(?=[,)])", "int"));
        }
        return texts;
    }

    private static void classesInside() {
        Class<?>[] inside = FleetFloor.class.getDeclaredClasses();
        Check.due("rule 11: how many classes", inside.length < 12, true);
        Check.due("rule 11: fields", size(FleetFloor.class) <= 20, true);
        for (Class<?> one : inside) {
            int kind = one.getModifiers();
            Check.due("rule 1: " + one + " is static", Modifier.isStatic(kind), true);
            Check.due("rule 1: " + one + " is shown", Modifier.isPublic(kind) || Modifier.isProtected(kind), false);
            Check.due("rule 11: fields of " + one, size(one) <= 20, true);
            for (Method method : one.getDeclaredMethods()) {
                Check.due("rule 1: private " + method, Modifier.isPrivate(method.getModifiers())
                        && isPublicSomewhere(method.getName()), false);
                Check.due("rule 11: parameters of " + method, method.getParameterCount() <= 7, true);
            }
        }
    }

    private static boolean isPublicSomewhere(String name) {
        for (Method method : FleetFloor.class.getMethods()) {
            if (method.getName().equals(name)) {
                return true;
            }
        }
        return false;
    }

    private static int size(Class<?> one) {
        int fields = 0;
        for (Field field : one.getDeclaredFields()) {
            if (Modifier.isStatic(field.getModifiers())) {
                Check.due("rule 5: " + field + " is final", Modifier.isFinal(field.getModifiers()), true);
            } else {
                fields++;
            }
        }
        return fields;
    }

    private static void same(String what, Set<String> found, Set<String> due) {
        for (String one : found) {
            Check.due(what + ": " + one + " is in the document", due.contains(one), true);
        }
        for (String one : due) {
            Check.due(what + ": " + one + " is in the class", found.contains(one), true);
        }
    }
}

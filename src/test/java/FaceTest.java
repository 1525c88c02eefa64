import java.lang.reflect.Constructor;
import java.lang.reflect.Field;
import java.lang.reflect.Method;
import java.lang.reflect.Modifier;
import java.util.ArrayList;
import java.util.List;
import java.util.Set;
import java.util.TreeSet;

/** The public face is the document's, in its whole, and nothing else of the class can be seen. */
final class FaceTest {
    static void run(Expect expect) {
        Class<?> type = PackageForge.class;
        expect.equal("the class is final", true, () -> Modifier.isFinal(type.getModifiers()));
        expect.equal("constructors", List.of("public PackageForge()"), () -> constructors(type));
        expect.equal("the document's methods", documented(), () -> publicMethods(type));
        expect.equal("members that can be seen besides", List.of(), () -> strayMembers(type));
    }

    private static List<String> constructors(Class<?> type) {
        List<String> list = new ArrayList<>();
        for (Constructor<?> constructor : type.getDeclaredConstructors()) {
            list.add(constructor.toString());
        }
        return list;
    }

    private static Set<String> publicMethods(Class<?> type) {
        Set<String> set = new TreeSet<>();
        for (Method method : type.getDeclaredMethods()) {
            if (Modifier.isPublic(method.getModifiers())) {
                set.add(inWords(method));
            }
        }
        return set;
    }

    private static String inWords(Method method) {
        List<String> parameters = new ArrayList<>();
        for (Class<?> parameter : method.getParameterTypes()) {
            parameters.add(parameter.getSimpleName());
        }
        List<String> exceptions = new ArrayList<>();
        for (Class<?> exception : method.getExceptionTypes()) {
            exceptions.add(exception.getSimpleName());
        }
        return method.getReturnType().getSimpleName() + " " + method.getName() + "("
                + String.join(", ", parameters) + ")"
                + (exceptions.isEmpty() ? "" : " throws " + String.join(", ", exceptions));
    }

    /** The methods of the document's face, without the names of their parameters. */
    private static Set<String> documented() {
        Set<String> set = new TreeSet<>();
        boolean isInFace = false;
        for (String line : Document.lines()) {
            if (line.equals("public final class PackageForge {")) {
                isInFace = true;
            } else if (line.equals("}")) {
                isInFace = false;
            } else if (isInFace && !line.contains("public PackageForge();")) {
                set.add(line.trim().replace("public ", "").replace(";", "")
                        .replaceAll("(int|boolean) \\w+(?=[,)])", "$1"));
            }
        }
        return set;
    }

    private static List<String> strayMembers(Class<?> type) {
        Set<String> publicNames = new TreeSet<>();
        for (Method method : type.getDeclaredMethods()) {
            if (Modifier.isPublic(method.getModifiers())) {
                publicNames.add(method.getName());
            }
        }
        List<String> stray = new ArrayList<>();
        for (Method method : type.getDeclaredMethods()) {
            boolean isPublic = Modifier.isPublic(method.getModifiers());
            if (!isPublic && (!Modifier.isPrivate(method.getModifiers())
                    || publicNames.contains(method.getName()))) {
                stray.add(method.toString());
            }
        }
        for (Field field : type.getDeclaredFields()) {
            if (!Modifier.isPrivate(field.getModifiers())) {
                stray.add(field.toString());
            }
        }
        for (Class<?> inside : type.getDeclaredClasses()) {
            if (!Modifier.isPrivate(inside.getModifiers()) || !Modifier.isStatic(inside.getModifiers())) {
                stray.add(inside.toString());
            }
        }
        return stray;
    }
}

import java.lang.reflect.Constructor;
import java.lang.reflect.Executable;
import java.lang.reflect.Field;
import java.lang.reflect.Method;
import java.lang.reflect.Modifier;
import java.nio.file.Files;
import java.nio.file.Path;
import java.util.Arrays;
import java.util.TreeSet;
import java.util.stream.Collectors;

/** The class has the face of the document, and no other member that can be seen from outside. */
public final class FaceTest {
    private FaceTest() {
    }

    public static void main(String[] args) throws Exception {
        Check.due("face", faceOfClass().toString(), faceOfDocument(Path.of(args[1])).toString());
        Check.due("modifiers", Modifier.toString(ShareVault.class.getModifiers()), "public final");
        for (Field field : ShareVault.class.getDeclaredFields()) {
            Check.due("private " + field.getName(), Modifier.isPrivate(field.getModifiers()), true);
        }
        checkPrivateNames();
        Check.end();
    }

    private static TreeSet<String> faceOfDocument(Path document) throws Exception {
        TreeSet<String> face = new TreeSet<>();
        for (String line : Files.readAllLines(document)) {
            if (line.startsWith("    public ") && line.endsWith(";")) {
                // Reflection tells no names of parameters.
                face.add(line.strip().replace(";", "").replaceAll("(int|boolean|char) [a-z]+(?=[,)])", "$1"));
            }
        }
        return face;
    }

    private static TreeSet<String> faceOfClass() {
        TreeSet<String> face = new TreeSet<>();
        for (Constructor<?> constructor : ShareVault.class.getDeclaredConstructors()) {
            face.add("public ShareVault" + restOf(constructor));
        }
        for (Method method : ShareVault.class.getDeclaredMethods()) {
            if (!Modifier.isPrivate(method.getModifiers())) {
                String modifiers = Modifier.toString(method.getModifiers());
                face.add(modifiers + " " + method.getReturnType() + " " + method.getName() + restOf(method));
            }
        }
        return face;
    }

    private static String restOf(Executable executable) {
        String parameters = namesOf(executable.getParameterTypes());
        String exceptions = namesOf(executable.getExceptionTypes());
        return "(" + parameters + ")" + (exceptions.isEmpty() ? "" : " throws " + exceptions);
    }

    private static String namesOf(Class<?>[] types) {
        return Arrays.stream(types).map(Class::getSimpleName).collect(Collectors.joining(", "));
    }

    private static void checkPrivateNames() {
        TreeSet<String> open = new TreeSet<>();
        for (Method method : ShareVault.class.getDeclaredMethods()) {
            if (Modifier.isPublic(method.getModifiers())) {
                open.add(method.getName());
            }
        }
        for (Class<?> part : ShareVault.class.getDeclaredClasses()) {
            for (Method method : part.getDeclaredMethods()) {
                Check.due(part.getName() + " " + method.getName(), open.contains(method.getName()), false);
            }
        }
        for (Method method : ShareVault.class.getDeclaredMethods()) {
            if (Modifier.isPrivate(method.getModifiers())) {
                Check.due("private " + method.getName(), open.contains(method.getName()), false);
            }
        }
    }
}

import java.lang.reflect.Constructor;
import java.lang.reflect.Executable;
import java.lang.reflect.Field;
import java.lang.reflect.Method;
import java.lang.reflect.Modifier;
import java.nio.file.Files;
import java.nio.file.Path;
import java.util.Arrays;
import java.util.TreeSet;
import java.util.stream.Collectors;

/** The class has the face of the document, and no other member that can be seen from outside. */
public final class FaceTest {
    private static final int OPEN = Modifier.PUBLIC | Modifier.PROTECTED;

    private FaceTest() {
    }

    public static void main(String[] args) throws Exception {
        Check.due("face", faceOfClass().toString(), faceOfDocument(Path.of(args[1])).toString());
        Check.due("modifiers", Modifier.toString(ShareVault.class.getModifiers()), "public final");
        for (Field field : ShareVault.class.getDeclaredFields()) {
            Check.due("private " + field.getName(), Modifier.isPrivate(field.getModifiers()), true);
        }
        checkPrivateNames();
        checkParts(ShareVault.class);
        for (Class<?> part : ShareVault.class.getDeclaredClasses()) {
            Check.due("private or package-visible " + part, (part.getModifiers() & OPEN) == 0, true);
            checkParts(part);
        }
        Check.end();
    }

    /** Some twenty fields at most, of which the static ones are final, and seven parameters. */
    private static void checkParts(Class<?> part) {
        int fields = 0;
        for (Field field : part.getDeclaredFields()) {
            boolean isConstant = Modifier.isStatic(field.getModifiers());
            Check.due("final " + field, !isConstant || Modifier.isFinal(field.getModifiers()), true);
            fields += isConstant ? 0 : 1;
        }
        Check.due("fields of " + part, fields <= 25, true);
        for (Method method : part.getDeclaredMethods()) {
            Check.due("parameters of " + method, method.getParameterCount() <= 7, true);
        }
    }

    private static TreeSet<String> faceOfDocument(Path document) throws Exception {
        TreeSet<String> face = new TreeSet<>();
        for (String line : Files.readAllLines(document)) {
            if (line.startsWith("    public ") && line.endsWith(";")) {
                // Reflection tells no names of parameters.
                face.add(line.strip().replace(";", "").replaceAll("(int|boolean|char) [a-z]+(?=[,)])", "$1"));
            }
        }
        return face;
    }

    private static TreeSet<String> faceOfClass() {
        TreeSet<String> face = new TreeSet<>();
        for (Constructor<?> constructor : ShareVault.class.getDeclaredConstructors()) {
            if (!Modifier.isPrivate(constructor.getModifiers())) {
                face.add(Modifier.toString(constructor.getModifiers()) + " ShareVault" + restOf(constructor));
            }
        }
        for (Method method : ShareVault.class.getDeclaredMethods()) {
            if (!Modifier.isPrivate(method.getModifiers())) {
                String modifiers = Modifier.toString(method.getModifiers());
                face.add(modifiers + " " + method.getReturnType() + " " + method.getName() + restOf(method));
            }
        }
        return face;
    }

    private static String restOf(Executable executable) {
        String parameters = namesOf(executable.getParameterTypes());
        String exceptions = namesOf(executable.getExceptionTypes());
        return "(" + parameters + ")" + (exceptions.isEmpty() ? "" : " throws " + exceptions);
    }

    private static String namesOf(Class<?>[] types) {
        return Arrays.stream(types).map(Class::getSimpleName).collect(Collectors.joining(", "));
    }

    private static void checkPrivateNames() {
        TreeSet<String> open = new TreeSet<>();
        for (Method method : ShareVault.class.getDeclaredMethods()) {
            if (Modifier.isPublic(method.getModifiers())) {
                open.add(method.getName());
            }
        }
        for (Class<?> part : ShareVault.class.getDeclaredClasses()) {
            checkPrivateNames(part, open);
        }
        checkPrivateNames(ShareVault.class, open);
    }

    private static void checkPrivateNames(Class<?> part, TreeSet<String> open) {
        for (Method method : part.getDeclaredMethods()) {
            boolean isPrivate = Modifier.isPrivate(method.getModifiers());
            Check.due("private " + method.getName(), isPrivate && open.contains(method.getName()), false);
        }
    }
}

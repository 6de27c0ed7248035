import java.lang.reflect.Array;
import java.lang.reflect.Constructor;
import java.lang.reflect.Field;
import java.lang.reflect.Modifier;

/**
 * A second vault in the same state. The tests look at a copy wherever they ask for much, since the document leaves
 * free what an object answers after its 512th call.
 */
final class Copy {
    private Copy() {
    }

    static ShareVault of(ShareVault vault) {
        try {
            return (ShareVault) copyOf(vault);
        } catch (ReflectiveOperationException wrong) {
            throw new AssertionError("the class cannot be copied", wrong);
        }
    }

    private static Object copyOf(Object from) throws ReflectiveOperationException {
        if (from == null || from instanceof Enum || from instanceof String || from.getClass().getName().matches(
                "java\\.lang\\.(Integer|Long|Boolean|Character)")) {
            return from;
        }
        if (from.getClass().isArray()) {
            return copyOfArray(from);
        }
        if (!from.getClass().getName().startsWith("ShareVault")) {
            throw new AssertionError("no way to copy " + from.getClass());
        }
        Constructor<?> constructor = from.getClass().getDeclaredConstructor();
        constructor.setAccessible(true);
        Object copy = constructor.newInstance();
        for (Field field : from.getClass().getDeclaredFields()) {
            if (!Modifier.isStatic(field.getModifiers())) {
                field.setAccessible(true);
                field.set(copy, copyOf(field.get(from)));
            }
        }
        return copy;
    }

    private static Object copyOfArray(Object from) throws ReflectiveOperationException {
        int length = Array.getLength(from);
        Object copy = Array.newInstance(from.getClass().getComponentType(), length);
        if (from.getClass().getComponentType().isPrimitive()) {
            System.arraycopy(from, 0, copy, 0, length);
            return copy;
        }
        for (int index = 0; index < length; index++) {
            Array.set(copy, index, copyOf(Array.get(from, index)));
        }
        return copy;
    }
}

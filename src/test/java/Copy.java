import java.lang.reflect.Array;
import java.lang.reflect.Constructor;
import java.lang.reflect.Field;
import java.lang.reflect.Modifier;
import java.util.ArrayList;
import java.util.IdentityHashMap;
import java.util.List;
import java.util.Map;

/**
 * A second vault in the same state. The tests look at a copy wherever they ask for much, since the document leaves
 * free what an object answers after its 512th call. If the class comes to hold something that cannot be copied here,
 * the vault itself is looked at.
 */
final class Copy {
    private final Map<Object, Object> copies = new IdentityHashMap<>();

    private Copy() {
    }

    static ShareVault of(ShareVault vault) {
        try {
            return (ShareVault) new Copy().copyOf(vault);
        } catch (ReflectiveOperationException | IllegalArgumentException impossible) {
            return vault;
        }
    }

    private Object copyOf(Object from) throws ReflectiveOperationException {
        if (from == null || from instanceof Enum || from instanceof String || from instanceof Number
                || from instanceof Boolean || from instanceof Character) {
            return from;
        }
        if (!copies.containsKey(from)) {
            makeCopy(from);
        }
        return copies.get(from);
    }

    private void makeCopy(Object from) throws ReflectiveOperationException {
        if (from.getClass().isArray()) {
            copyArray(from);
        } else if (from instanceof List<?> list) {
            List<Object> copy = new ArrayList<>();
            copies.put(from, copy);
            for (Object each : list) {
                copy.add(copyOf(each));
            }
        } else if (from instanceof StringBuilder text) {
            copies.put(from, new StringBuilder(text));
        } else if (from.getClass().getName().startsWith("ShareVault")) {
            copyFields(from);
        } else {
            throw new IllegalArgumentException("no way to copy " + from.getClass());
        }
    }

    private void copyArray(Object from) throws ReflectiveOperationException {
        int length = Array.getLength(from);
        Object copy = Array.newInstance(from.getClass().getComponentType(), length);
        copies.put(from, copy);
        if (from.getClass().getComponentType().isPrimitive()) {
            System.arraycopy(from, 0, copy, 0, length);
            return;
        }
        for (int index = 0; index < length; index++) {
            Array.set(copy, index, copyOf(Array.get(from, index)));
        }
    }

    private void copyFields(Object from) throws ReflectiveOperationException {
        Constructor<?> constructor = from.getClass().getDeclaredConstructor();
        constructor.setAccessible(true);
        Object copy = constructor.newInstance();
        copies.put(from, copy);
        for (Field field : from.getClass().getDeclaredFields()) {
            if (!Modifier.isStatic(field.getModifiers())) {
                field.setAccessible(true);
                field.set(copy, copyOf(field.get(from)));
            }
        }
    }
}

import java.lang.reflect.Array;
import java.lang.reflect.Field;

/**
 * Promise 49 where no call comes: fields of a vault are set so that they contradict each other, one at a time, and
 * isConsistent must tell; set back, it must not. The names are those of the class as it is built now; where it has
 * other fields, there is nothing to set.
 */
public final class ConsistencyTest {
    private ConsistencyTest() {
    }

    public static void main(String[] args) {
        wrongSums();
        guardsOutsideTheRing();
        keyPresentedTwice();
        shareAboveTheModulus();
        Check.due("49 new", new ShareVault().isConsistent(), true);
        Check.end();
    }

    private static void wrongSums() {
        ShareVault vault = Vaults.withEntries(3);
        contradicts("all alarms", vault, 4, "state", "building", "alarmCount");
        contradicts("all alarms", vault, 2, "state", "building", "alarmCount");
        contradicts("no alarms", vault, 0, "state", "building", "alarmCount");
        for (int zone = 0; zone < 8; zone++) {
            contradicts("alarms of " + zone, vault, 9, "state", "building", "alarms", "" + zone);
        }
    }

    /** Only the remainder of such a zone is that of another one, for which the two ways to find visits differ. */
    private static void guardsOutsideTheRing() {
        for (int zone = 0; zone < 8; zone++) {
            contradicts("zone " + zone, Vaults.withGuards(zone), 8 + zone, "state", "building", "guardZones", "0");
        }
        contradicts("third guard", Vaults.withGuards(1, 1, 1), 12, "state", "building", "guardZones", "2");
    }

    /** The positions do not differ, so each way to tell divides by 0 in its own place, and comes to its own number. */
    private static void keyPresentedTwice() {
        contradicts("one key twice", Vaults.sealed(2, 2, 2), 0, "state", "keys", "presented", "1");
    }

    /** Of the two ways to count agreeing keys, only one finds that such a share is none. */
    private static void shareAboveTheModulus() {
        contradicts("share 97 higher", Vaults.sealed(3, 2, 3), 47 + 97, "state", "keys", "shares", "0");
    }

    private static void contradicts(String what, ShareVault vault, int number, String... path) {
        Check.due("49 before " + what, vault.isConsistent(), true);
        try {
            int before = exchange(vault, number, path);
            Check.due("49 " + what, vault.isConsistent(), false);
            exchange(vault, before, path);
        } catch (ReflectiveOperationException missing) {
            System.out.println("no field for " + what);
        }
        Check.due("49 after " + what, vault.isConsistent(), true);
    }

    /** Sets the number at the end of the path, and returns the one that it was. */
    private static int exchange(Object holder, int number, String... path) throws ReflectiveOperationException {
        Object at = holder;
        for (int step = 0; step < path.length - 1; step++) {
            at = fieldOf(at, path[step]).get(at);
        }
        String last = path[path.length - 1];
        if (at.getClass().isArray()) {
            int before = Array.getInt(at, Integer.parseInt(last));
            Array.setInt(at, Integer.parseInt(last), number);
            return before;
        }
        int before = fieldOf(at, last).getInt(at);
        fieldOf(at, last).setInt(at, number);
        return before;
    }

    private static Field fieldOf(Object object, String name) throws ReflectiveOperationException {
        Field field = object.getClass().getDeclaredField(name);
        field.setAccessible(true);
        return field;
    }
}

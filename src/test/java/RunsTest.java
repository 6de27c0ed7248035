import java.lang.reflect.InvocationTargetException;
import java.lang.reflect.Method;
import java.util.ArrayDeque;
import java.util.ArrayList;
import java.util.Arrays;
import java.util.Comparator;
import java.util.Deque;
import java.util.List;
import java.util.Random;
import java.util.Set;

/** Random runs of calls, whose answers and states are compared with what can be found in another way. */
public final class RunsTest {
    private static final Set<String> RECORDED = Set.of("addHolder", "seal", "setShare", "present", "takeBack",
        "openVault", "closeVault", "addGuard", "turnGuard", "hum", "passHours", "runCommands");
    private static final Set<String> CHANGING = Set.of("addHolder", "seal", "setShare", "present", "takeBack",
        "openVault", "closeVault", "addGuard", "turnGuard", "hum", "passHours", "runCommands", "undo", "restore");
    private static final String[] TEXTS = {"holder", "wait 24;hum 1 9;wait", "give 0;give 1;give 2;open", "open;close",
        "guard 0+1;open", "seal 5 6 7 2;give 1;give 0;open", "hum 3 9;open", "close;wait 6", "hold", "share 1 9;x"};
    private static final int CALLS = 500;

    private final Random random;
    private final ShareVault vault = new ShareVault();
    private final Deque<String> past = new ArrayDeque<>();
    private String saved = null;

    private RunsTest(long seed) {
        random = new Random(seed);
    }

    public static void main(String[] args) throws Exception {
        for (int seed = 0; seed < 120; seed++) {
            new RunsTest(seed).makeRun();
        }
        for (int seed = 0; seed < 150; seed++) {
            checkKeys(new Random(seed), 1 + seed % 3);
        }
        Check.end();
    }

    private void makeRun() throws Exception {
        List<Method> methods = new ArrayList<>(Arrays.asList(ShareVault.class.getDeclaredMethods()));
        methods.removeIf(method -> !java.lang.reflect.Modifier.isPublic(method.getModifiers()));
        // Reflection promises no order, and a run must be the same each time.
        methods.sort(Comparator.comparing(Method::getName));
        List<Method> often = methods.stream().filter(method -> CHANGING.contains(method.getName())).toList();
        for (int call = 0; call < CALLS; call++) {
            List<Method> chosen = random.nextInt(3) > 0 ? often : methods;
            makeCall(chosen.get(random.nextInt(chosen.size())));
            if (call % 25 == 0) {
                checkFuture();
            }
        }
    }

    private void makeCall(Method method) throws Exception {
        if (method.getName().equals("restore") && random.nextInt(8) > 0) {
            return;
        }
        if (method.getName().equals("runCommands")) {
            feedSome();
        }
        String before = Check.savedPartOf(vault);
        Object[] arguments = argumentsFor(method);
        String what = method.getName() + Arrays.toString(arguments);
        try {
            Object answer = method.invoke(vault, arguments);
            noteReturn(what, method.getName(), before, answer);
        } catch (InvocationTargetException wrapped) {
            checkThrown(what, method, wrapped.getCause());
            Check.due(what + " that throws leaves the state", Check.savedPartOf(vault), before);
        }
        Check.due(what + " and undoCount", vault.undoCount(), past.size());
        Check.due(what + " and isConsistent", vault.isConsistent(), true);
    }

    /** Only a listed class, and none below it, is thrown: the machine's own are below or not listed. */
    private static void checkThrown(String what, Method method, Throwable thrown) {
        boolean listed = Arrays.asList(method.getExceptionTypes()).contains(thrown.getClass());
        Check.due(what + " throws " + thrown, listed, true);
    }

    private void noteReturn(String what, String name, String before, Object answer) {
        String after = Check.savedPartOf(vault);
        if (RECORDED.contains(name)) {
            past.addLast(before);
            if (past.size() > 8) {
                past.removeFirst();
            }
        } else if (name.equals("undo")) {
            Check.due(what, after, past.removeLast());
            Check.due(what, answer, past.size());
        } else if (name.equals("restore")) {
            Check.due(what, after, saved);
            past.clear();
        } else {
            Check.due(what + " changes nothing", after, before);
            saved = name.equals("save") ? before : saved;
        }
    }

    private void feedSome() {
        String text = TEXTS[random.nextInt(TEXTS.length)];
        for (char sign : text.toCharArray()) {
            Check.outcomeOf(() -> vault.feed(sign));
        }
    }

    private Object[] argumentsFor(Method method) {
        Class<?>[] types = method.getParameterTypes();
        Object[] arguments = new Object[types.length];
        for (int index = 0; index < types.length; index++) {
            if (types[index] == boolean.class) {
                arguments[index] = random.nextBoolean();
            } else if (types[index] == char.class) {
                arguments[index] = TEXTS[2].charAt(random.nextInt(TEXTS[2].length()));
            } else {
                arguments[index] = someNumber();
            }
        }
        return arguments;
    }

    private int someNumber() {
        int[] odd = {Integer.MIN_VALUE, Integer.MAX_VALUE, -1, 8, 20, 24, 25, 96, 97};
        int kind = random.nextInt(12);
        return kind == 0 ? odd[random.nextInt(odd.length)] : kind < 8 ? random.nextInt(4) : random.nextInt(10);
    }

    private void checkFuture() {
        int[] zones = new int[8];
        for (int rank = 0; rank < 8; rank++) {
            zones[rank] = vault.zoneByNoise(rank);
        }
        Integer[] sorted = {0, 1, 2, 3, 4, 5, 6, 7};
        Arrays.sort(sorted, Comparator.comparing((Integer zone) -> -vault.noise(zone))
            .thenComparing(zone -> -vault.alarmsOf(zone)));
        Check.due("zoneByNoise", Arrays.toString(zones), Arrays.toString(sorted));
        for (int hours : new int[] {1, 5, 24}) {
            int foretold = vault.alarmsIn(hours);
            Check.due("passHours", vault.passHours(hours), foretold);
            vault.undo();
        }
        // These calls are recorded, so the oldest of eight states has gone.
        while (past.size() > 7) {
            past.removeFirst();
        }
        for (int zone = 0; zone < 8; zone++) {
            checkVisit(zone);
        }
    }

    private void checkVisit(int zone) {
        if (vault.guardCount() == 0) {
            return;
        }
        int foretold = vault.hoursUntilVisitByRemainders(zone);
        Check.due("hoursUntilVisit", vault.hoursUntilVisit(zone), foretold);
        int passed = 0;
        boolean inside = isInside(zone);
        while (!inside && passed < 24) {
            passed++;
            vault.passHours(passed);
            inside = isInside(zone);
            vault.undo();
        }
        Check.due("visit", inside ? passed : 24, Math.min(foretold, 24));
    }

    private boolean isInside(int zone) {
        for (int guard = 0; guard < vault.guardCount(); guard++) {
            if (vault.zoneOf(guard) == zone) {
                return true;
            }
        }
        return false;
    }

    private static void checkKeys(Random random, int threshold) {
        ShareVault vault = new ShareVault();
        for (int holder = 0; holder < 8; holder++) {
            vault.addHolder();
        }
        vault.seal(random.nextInt(97), random.nextInt(97), random.nextInt(97), threshold);
        for (int changes = random.nextInt(6); changes > 0; changes--) {
            vault.setShare(random.nextInt(8), random.nextInt(97));
        }
        int wanted = threshold + random.nextInt(9 - threshold);
        while (vault.presentedCount() < wanted) {
            int holder = random.nextInt(8);
            if (!vault.isPresented(holder)) {
                vault.present(holder);
            }
        }
        checkAllPolynomials(vault, threshold);
    }

    /** Tries each polynomial of the form, and so needs no division at all. */
    private static void checkAllPolynomials(ShareVault vault, int threshold) {
        int most = 0;
        for (int first = 0; first < (threshold > 1 ? 97 : 1); first++) {
            for (int second = 0; second < (threshold > 2 ? 97 : 1); second++) {
                for (int secret = 0; secret < 97; secret++) {
                    int[] polynomial = {secret, first, second};
                    most = Math.max(most, countOn(vault, polynomial, vault.presentedCount()));
                    if (countOn(vault, polynomial, threshold) == threshold) {
                        checkTold(vault, polynomial);
                    }
                }
            }
        }
        Check.due("mostAgreeing", vault.mostAgreeing(), most);
        Check.due("mostAgreeingBySets", vault.mostAgreeingBySets(), most);
        Check.due("doAgree", vault.doAgree(), most == vault.presentedCount());
    }

    private static void checkTold(ShareVault vault, int[] polynomial) {
        Check.due("toldSecret", vault.toldSecret(), polynomial[0]);
        Check.due("toldSecretByElimination", vault.toldSecretByElimination(), polynomial[0]);
        for (int position = 0; position < 97; position++) {
            Check.due("toldValue", vault.toldValue(position), valueOf(polynomial, position));
        }
    }

    private static int countOn(ShareVault vault, int[] polynomial, int places) {
        int count = 0;
        for (int place = 0; place < places; place++) {
            int holder = vault.presentedAt(place);
            if (vault.share(holder) == valueOf(polynomial, holder + 1)) {
                count++;
            }
        }
        return count;
    }

    private static int valueOf(int[] polynomial, int position) {
        return (polynomial[0] + polynomial[1] * position + polynomial[2] * position * position) % 97;
    }
}

import java.lang.reflect.InvocationTargetException;
import java.lang.reflect.Method;
import java.util.Arrays;
import java.util.HashMap;
import java.util.Map;
import java.util.Random;
import java.util.Set;

/** Random runs of at most 512 calls, whose answers must be those of the Model; and keys against all polynomials. */
public final class RunsTest {
    /** How often each method is called, and the ranges from which its arguments mostly come; "?" is true or false. */
    private static final String[] METHODS = {
        "addHolder 6", "seal 3 0-96 0-96 0-96 1-3", "setShare 6 H 0-96", "present 20 H", "takeBack 4 H",
        "openVault 14", "closeVault 8", "addGuard 6 0-7 ? 1-4", "turnGuard 4 0-2", "hum 20 0-7 1-9",
        "passHours 8 1-24", "hour 1", "holderCount 1", "isSealed 1", "threshold 1", "share 3 H", "isCorrect 3 H",
        "isPresented 2 H", "presentedCount 1", "presentedAt 2 H", "toldSecret 3", "toldSecretByElimination 3",
        "toldValue 3 0-96", "doAgree 3", "mostAgreeing 2", "mostAgreeingBySets 2", "isOpen 1", "lockedHours 1",
        "failedAttempts 1", "guardCount 1", "zoneOf 2 0-2", "isForwards 2 0-2", "noise 2 0-7", "isGuarded 2 0-7",
        "hoursUntilVisit 3 0-7", "hoursUntilVisitByRemainders 3 0-7", "alarmsIn 3 0-24", "zoneByNoise 3 0-7",
        "alarmsOf 2 0-7", "alarmCount 1", "openingCount 1", "logCount 1", "logHour 2 0-11", "logKind 2 0-11",
        "logDetail 2 0-11", "meanNoise 1", "alarmShare 2 0-7", "isConsistent 2", "refusalReason 2",
        "refusalDetail 2", "refusalCause 2", "feed 1 ?", "runCommands 1", "errorPosition 2", "writeZones 1",
        "writeLog 1", "outputChar 2 0-40", "undoCount 2", "undo 8", "save 1", "restore 1"
    };
    private static final Set<String> CHANGING = Set.of("addHolder", "seal", "setShare", "present", "takeBack",
        "openVault", "closeVault", "addGuard", "turnGuard", "hum", "passHours", "feed", "runCommands", "writeZones",
        "writeLog", "outputChar", "undo", "save", "restore");
    private static final int MOST_CALLS = 512;

    private static final Map<String, Method> OF_VAULT = byName(ShareVault.class);
    private static final Map<String, Method> OF_MODEL = byName(Model.class);
    private static final Map<String, Integer> SEEN = new HashMap<>();

    private final Random random;
    private final ShareVault vault = new ShareVault();
    private final Model model = new Model();
    private int calls = 0;

    private RunsTest(long seed) {
        random = new Random(seed);
    }

    public static void main(String[] args) {
        Check.due("methods", METHODS.length, OF_VAULT.size());
        for (int seed = 0; seed < 600; seed++) {
            RunsTest run = new RunsTest(seed);
            run.begin();
            run.goOn(seed % 3 == 0 ? 300 : MOST_CALLS);
            if (seed % 3 == 0) {
                run.lookAtAll();
            }
            Check.due("calls of a run", run.calls <= MOST_CALLS, true);
        }
        checkSeen();
        for (int seed = 0; seed < 150; seed++) {
            checkKeys(new Random(seed), 1 + seed % 3);
        }
        Check.end();
    }

    private static Map<String, Method> byName(Class<?> type) {
        Map<String, Method> methods = new HashMap<>();
        for (Method method : type.getDeclaredMethods()) {
            if (java.lang.reflect.Modifier.isPublic(method.getModifiers())) {
                methods.put(method.getName(), method);
            }
        }
        return methods;
    }

    /** Most runs begin with what an attempt to open needs, which random calls seldom come to. */
    private void begin() {
        if (random.nextInt(5) == 0) {
            return;
        }
        int holders = 3 + random.nextInt(6);
        for (int holder = 0; holder < holders; holder++) {
            call("addHolder");
        }
        call("addGuard", 0, random.nextBoolean(), 1 + random.nextInt(4));
        int threshold = 1 + random.nextInt(3);
        call("seal", random.nextInt(97), random.nextInt(97), random.nextInt(97), threshold);
        for (int holder = 0; holder < threshold; holder++) {
            call("present", holder);
        }
        if (random.nextInt(3) > 0) {
            call("setShare", random.nextInt(threshold), random.nextInt(97));
        }
    }

    private void goOn(int most) {
        // The output takes 97 calls at most, a text 64.
        while (calls < most - 100) {
            int kind = random.nextInt(60);
            if (kind < 2) {
                runText();
            } else if (kind < 7) {
                tryToOpen();
            } else if (kind == 7) {
                readOutput(random.nextBoolean() ? "writeZones" : "writeLog");
            } else {
                callOne(METHODS[someMethod()].split(" "));
            }
        }
    }

    private int someMethod() {
        int all = Arrays.stream(METHODS).mapToInt(RunsTest::weightOf).sum();
        int left = random.nextInt(all);
        int method = 0;
        while (left >= weightOf(METHODS[method])) {
            left -= weightOf(METHODS[method]);
            method++;
        }
        return method;
    }

    private static int weightOf(String method) {
        return Integer.parseInt(method.split(" ")[1]);
    }

    private void callOne(String[] parts) {
        Object[] arguments = new Object[parts.length - 2];
        for (int index = 0; index < arguments.length; index++) {
            arguments[index] = argument(parts[index + 2]);
        }
        if (parts[0].equals("feed")) {
            arguments[0] = "holder;wait 1\u00ff".charAt(random.nextInt(14));
        }
        call(parts[0], arguments);
    }

    private Object argument(String range) {
        if (range.equals("?")) {
            return random.nextBoolean();
        }
        int least = range.equals("H") ? 0 : Integer.parseInt(range.split("-")[0]);
        int greatest = range.equals("H") ? model.holderCount() - 1 : Integer.parseInt(range.split("-")[1]);
        int[] wrong = {least - 1, greatest + 1, Integer.MIN_VALUE, Integer.MAX_VALUE};
        return greatest < least || random.nextInt(12) == 0 ? wrong[random.nextInt(4)]
            : least + random.nextInt(greatest - least + 1);
    }

    /** The same attempt some times over, so that the vault is locked in many runs. */
    private void tryToOpen() {
        for (int attempts = random.nextInt(4); attempts >= 0; attempts--) {
            call("openVault");
        }
    }

    private void readOutput(String method) {
        call(method);
        int length = model.outputLength();
        for (int index = 0; index <= length; index++) {
            call("outputChar", index);
        }
    }

    private void runText() {
        String text = command();
        while (random.nextInt(4) > 0) {
            text = text + ";" + command();
        }
        if (random.nextInt(4) == 0) {
            int index = random.nextInt(text.length());
            text = text.substring(0, index) + "x; 0"
                .charAt(random.nextInt(4)) + text.substring(index + random.nextInt(2));
        }
        for (int index = 0; index < Math.min(60, text.length()); index++) {
            call("feed", text.charAt(index));
        }
        call("runCommands");
    }

    private String command() {
        String[] forms = {"holder", "seal 77 77 77 4", "share 9 77", "give 9", "give 9", "back 9", "open", "open",
            "close", "guard 9+5", "guard 9-5", "turn 3", "hum 9 9", "wait", "wait 9", "wait 27"};
        StringBuilder text = new StringBuilder(forms[random.nextInt(forms.length)]);
        for (int index = 0; index < text.length(); index++) {
            if (Character.isDigit(text.charAt(index))) {
                text.setCharAt(index, (char) ('0' + random.nextInt(text.charAt(index) - '0' + 1)));
            }
        }
        return text.toString();
    }

    private void lookAtAll() {
        for (String method : METHODS) {
            String[] parts = method.split(" ");
            boolean isLook = !CHANGING.contains(parts[0]);
            if (isLook && parts.length == 2) {
                call(parts[0]);
            } else if (isLook) {
                int greatest = parts[2].equals("H") ? 7 : Math.min(11, Integer.parseInt(parts[2].split("-")[1]));
                for (int number = 0; number <= greatest; number++) {
                    call(parts[0], number);
                }
            }
        }
    }

    private void call(String name, Object... arguments) {
        calls++;
        String want = outcomeOf(OF_MODEL.get(name), model, arguments);
        Check.due("call " + calls + " " + name + Arrays.toString(arguments),
            outcomeOf(OF_VAULT.get(name), vault, arguments), want);
        SEEN.merge(name + (want.endsWith("Exception") ? " throws" : ""), 1, Integer::sum);
        if (name.equals("openVault") || name.equals("refusalReason") || name.equals("refusalCause")) {
            SEEN.merge(name + " " + want, 1, Integer::sum);
        }
        if (want.equals("UnsupportedOperationException") && random.nextInt(3) == 0) {
            call("refusalReason");
            call("refusalDetail");
            call("refusalCause");
        }
    }

    private static String outcomeOf(Method method, Object object, Object[] arguments) {
        try {
            return String.valueOf(method.invoke(object, arguments));
        } catch (InvocationTargetException thrown) {
            return thrown.getCause().getClass().getSimpleName();
        } catch (IllegalAccessException wrong) {
            throw new AssertionError(wrong);
        }
    }

    /** The runs must come to what they are there for. */
    private static void checkSeen() {
        for (String name : OF_VAULT.keySet()) {
            Check.due("seen " + name, SEEN.getOrDefault(name, 0) >= 30, true);
        }
        for (int reason = 1; reason <= 12; reason++) {
            if (reason <= 11) {
                Check.due("seen reason " + reason, SEEN.getOrDefault("refusalReason " + reason, 0) >= 3, true);
            }
            if (reason != 11) {
                Check.due("seen cause " + reason, SEEN.getOrDefault("refusalCause " + reason, 0) >= 1, true);
            }
        }
        Check.due("seen true", SEEN.getOrDefault("openVault true", 0) >= 100, true);
        Check.due("seen false", SEEN.getOrDefault("openVault false", 0) >= 300, true);
    }

    private static void checkKeys(Random random, int threshold) {
        ShareVault vault = Vaults.withHolders(8);
        vault.seal(random.nextInt(97), random.nextInt(97), random.nextInt(97), threshold);
        for (int changes = random.nextInt(6); changes > 0; changes--) {
            vault.setShare(random.nextInt(8), random.nextInt(97));
        }
        int wanted = threshold + random.nextInt(9 - threshold);
        while (vault.presentedCount() < wanted) {
            int holder = random.nextInt(8);
            if (!vault.isPresented(holder)) {
                vault.present(holder);
            }
        }
        checkAllPolynomials(vault, threshold);
    }

    /** Tries each polynomial of the form, and so needs no division at all. */
    private static void checkAllPolynomials(ShareVault vault, int threshold) {
        int[][] points = new int[vault.presentedCount()][];
        for (int place = 0; place < points.length; place++) {
            int holder = vault.presentedAt(place);
            points[place] = new int[] {holder + 1, vault.share(holder)};
        }
        int most = 0;
        for (int first = 0; first < (threshold > 1 ? 97 : 1); first++) {
            for (int second = 0; second < (threshold > 2 ? 97 : 1); second++) {
                for (int secret = 0; secret < 97; secret++) {
                    int[] polynomial = {secret, first, second};
                    most = Math.max(most, countOn(points, polynomial, points.length));
                    if (countOn(points, polynomial, threshold) == threshold) {
                        checkTold(vault, polynomial);
                    }
                }
            }
        }
        Check.due("mostAgreeing", vault.mostAgreeing(), most);
        Check.due("mostAgreeingBySets", vault.mostAgreeingBySets(), most);
        Check.due("doAgree", vault.doAgree(), most == points.length);
    }

    private static void checkTold(ShareVault vault, int[] polynomial) {
        Check.due("toldSecret", vault.toldSecret(), polynomial[0]);
        Check.due("toldSecretByElimination", vault.toldSecretByElimination(), polynomial[0]);
        for (int position = 0; position < 97; position++) {
            Check.due("toldValue", vault.toldValue(position), valueOf(polynomial, position));
        }
    }

    private static int countOn(int[][] points, int[] polynomial, int places) {
        int count = 0;
        for (int place = 0; place < places; place++) {
            if (points[place][1] == valueOf(polynomial, points[place][0])) {
                count++;
            }
        }
        return count;
    }

    private static int valueOf(int[] polynomial, int position) {
        return (polynomial[0] + polynomial[1] * position + polynomial[2] * position * position) % 97;
    }
}

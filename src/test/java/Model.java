import java.util.ArrayDeque;
import java.util.ArrayList;
import java.util.Arrays;
import java.util.Comparator;
import java.util.Deque;
import java.util.List;
import java.util.NoSuchElementException;
import java.util.function.Supplier;
import java.util.regex.MatchResult;
import java.util.regex.Pattern;

/**
 * What the document says, written a second time and in another way than the class: facts are copied as a whole,
 * polynomials are found by differences, quotients by trying, and texts are read by regular expressions.
 */
final class Model {
    private static final Pattern NUMBER = Pattern.compile("[0-9]+");

    private static final class Facts {
        List<Integer> shares = new ArrayList<>();
        List<Integer> keys = new ArrayList<>();
        int[] curve = null;
        int threshold;
        boolean open;
        int locked;
        int failed;
        int openings;
        int hour;
        int[] noise = new int[8];
        int[] alarms = new int[8];
        /** Of each guard the zone, 1 or -1, and the period. */
        List<int[]> guards = new ArrayList<>();
        List<Object[]> log = new ArrayList<>();

        Facts copy() {
            Facts copy = new Facts();
            copy.shares.addAll(shares);
            copy.keys.addAll(keys);
            copy.curve = curve;
            copy.threshold = threshold;
            copy.open = open;
            copy.locked = locked;
            copy.failed = failed;
            copy.openings = openings;
            copy.hour = hour;
            copy.noise = noise.clone();
            copy.alarms = alarms.clone();
            guards.forEach(guard -> copy.guards.add(guard.clone()));
            copy.log.addAll(log);
            return copy;
        }
    }

    private Facts now = new Facts();
    private Facts saved = null;
    private final Deque<Facts> past = new ArrayDeque<>();
    private String input = "";
    private String output = "";
    private Integer error = null;
    /** The reason, the detail, and the cause or null. */
    private Integer[] refusal = null;

    private <T> T recorded(Supplier<T> call) {
        Facts before = now.copy();
        try {
            T answer = call.get();
            past.addLast(before);
            if (past.size() > 8) {
                past.removeFirst();
            }
            return answer;
        } catch (RuntimeException thrown) {
            now = before;
            throw thrown;
        }
    }

    private void refuse(boolean refused, int reason, int detail) {
        if (refused) {
            refusal = new Integer[] {reason, detail, null};
            throw new UnsupportedOperationException();
        }
    }

    private static void index(int index, int count) {
        if (index < 0 || index >= count) {
            throw new IndexOutOfBoundsException();
        }
    }

    private static void range(int number, int least, int greatest) {
        if (number < least || number > greatest) {
            throw new IllegalArgumentException();
        }
    }

    private static void element(boolean exists) {
        if (!exists) {
            throw new NoSuchElementException();
        }
    }

    private static void state(boolean legal) {
        if (!legal) {
            throw new IllegalStateException();
        }
    }

    private static int mod97(int number) {
        return (number % 97 + 97) % 97;
    }

    private static int quotient(int number, int divisor) {
        for (int quotient = 0; quotient < 97; quotient++) {
            if (mod97(quotient * divisor) == mod97(number)) {
                return quotient;
            }
        }
        throw new AssertionError("no quotient by " + divisor);
    }

    private int curveAt(int position) {
        return mod97(now.curve[0] + now.curve[1] * position + now.curve[2] * position * position);
    }

    /** The divided differences of the shares of these holders: the numbers of Newton's form of the polynomial. */
    private int[] differences(List<Integer> holders) {
        int[] numbers = holders.stream().mapToInt(holder -> now.shares.get(holder)).toArray();
        for (int order = 1; order < numbers.length; order++) {
            for (int place = numbers.length - 1; place >= order; place--) {
                int apart = holders.get(place) - holders.get(place - order);
                numbers[place] = quotient(numbers[place] - numbers[place - 1], apart);
            }
        }
        return numbers;
    }

    private boolean isOnOnePolynomial(List<Integer> holders) {
        int[] numbers = differences(holders);
        return Arrays.stream(numbers).skip(now.threshold).allMatch(number -> number == 0);
    }

    private int told(int position) {
        List<Integer> first = now.keys.subList(0, now.threshold);
        int[] numbers = differences(first);
        int value = 0;
        for (int place = numbers.length - 1; place >= 0; place--) {
            value = mod97(numbers[place] + value * mod97(position - first.get(place) - 1));
        }
        return value;
    }

    private void enter(char kind, int detail) {
        now.log.add(new Object[] {now.hour, kind, detail});
        if (now.log.size() > 12) {
            now.log.remove(0);
        }
    }

    public int addHolder() {
        return recorded(() -> {
            int holder = now.shares.size();
            refuse(holder == 8, 1, 8);
            now.shares.add(now.curve == null ? null : curveAt(holder + 1));
            return holder;
        });
    }

    public int seal(int secret, int first, int second, int threshold) {
        return recorded(() -> {
            range(secret, 0, 96);
            range(first, 0, 96);
            range(second, 0, 96);
            range(threshold, 1, 3);
            int holders = now.shares.size();
            refuse(holders < threshold, 2, holders);
            now.curve = new int[] {secret, threshold == 1 ? 0 : first, threshold < 3 ? 0 : second};
            now.threshold = threshold;
            for (int holder = 0; holder < holders; holder++) {
                now.shares.set(holder, curveAt(holder + 1));
            }
            now.open = false;
            now.keys.clear();
            now.locked = 0;
            now.failed = 0;
            return holders;
        });
    }

    public int setShare(int holder, int share) {
        return recorded(() -> {
            index(holder, now.shares.size());
            range(share, 0, 96);
            refuse(now.curve == null, 3, 0);
            return now.shares.set(holder, share);
        });
    }

    public int present(int holder) {
        return recorded(() -> {
            index(holder, now.shares.size());
            refuse(now.curve == null, 3, 0);
            refuse(now.keys.contains(holder), 4, now.keys.indexOf(holder));
            now.keys.add(holder);
            return now.keys.size();
        });
    }

    public int takeBack(int holder) {
        return recorded(() -> {
            index(holder, now.shares.size());
            refuse(now.curve == null, 3, 0);
            refuse(!now.keys.contains(holder), 5, holder);
            now.keys.remove((Integer) holder);
            return now.keys.size();
        });
    }

    public boolean openVault() {
        return recorded(() -> {
            int keys = now.keys.size();
            refuse(now.curve == null, 3, 0);
            refuse(now.open, 6, keys);
            refuse(now.locked > 0, 7, now.locked);
            refuse(keys < now.threshold, 8, now.threshold - keys);
            refuse(now.guards.stream().noneMatch(guard -> guard[0] == 0), 9, now.guards.size());
            now.open = isOnOnePolynomial(now.keys) && told(0) == now.curve[0];
            enter(now.open ? 'o' : 'f', keys);
            now.openings += now.open ? 1 : 0;
            now.failed = now.open ? 0 : now.failed + 1;
            if (now.failed == 3) {
                now.failed = 0;
                now.locked = 6;
            }
            return now.open;
        });
    }

    public int closeVault() {
        return recorded(() -> {
            refuse(now.curve == null, 3, 0);
            refuse(!now.open, 10, now.failed);
            int keys = now.keys.size();
            now.keys.clear();
            now.open = false;
            enter('c', 0);
            return keys;
        });
    }

    public int addGuard(int zone, boolean forwards, int period) {
        return recorded(() -> {
            range(zone, 0, 7);
            range(period, 1, 4);
            refuse(now.guards.size() == 3, 1, 3);
            now.guards.add(new int[] {zone, forwards ? 1 : -1, period});
            return now.guards.size() - 1;
        });
    }

    public boolean turnGuard(int guard) {
        return recorded(() -> {
            index(guard, now.guards.size());
            now.guards.get(guard)[1] *= -1;
            return now.guards.get(guard)[1] == 1;
        });
    }

    public int hum(int zone, int loudness) {
        return recorded(() -> {
            range(zone, 0, 7);
            range(loudness, 1, 9);
            now.noise[zone] = Math.min(20, now.noise[zone] + loudness);
            return now.noise[zone];
        });
    }

    public int passHours(int hours) {
        return recorded(() -> {
            range(hours, 1, 24);
            return alarmsBy(hours);
        });
    }

    private int alarmsBy(int hours) {
        int before = alarmCount();
        for (int hour = 0; hour < hours; hour++) {
            passHour();
        }
        return alarmCount() - before;
    }

    private void passHour() {
        now.hour++;
        for (int[] guard : now.guards) {
            guard[0] = now.hour % guard[2] == 0 ? (guard[0] + guard[1] + 8) % 8 : guard[0];
        }
        for (int zone = 0; zone < 8; zone++) {
            if (isIn(zone)) {
                now.noise[zone] = 0;
            } else if (now.noise[zone] >= 5 && !isIn((zone + 1) % 8) && !isIn((zone + 7) % 8)) {
                enter('a', zone);
                now.alarms[zone]++;
                now.noise[zone] = 0;
            } else {
                now.noise[zone] = Math.max(0, now.noise[zone] - 1);
            }
        }
        now.locked = Math.max(0, now.locked - 1);
    }

    private boolean isIn(int zone) {
        return now.guards.stream().anyMatch(guard -> guard[0] == zone);
    }

    public int hour() {
        return now.hour;
    }

    public int holderCount() {
        return now.shares.size();
    }

    public boolean isSealed() {
        return now.curve != null;
    }

    public int threshold() {
        element(now.curve != null);
        return now.threshold;
    }

    public int share(int holder) {
        index(holder, now.shares.size());
        element(now.curve != null);
        return now.shares.get(holder);
    }

    public boolean isCorrect(int holder) {
        return share(holder) == curveAt(holder + 1);
    }

    public boolean isPresented(int holder) {
        index(holder, now.shares.size());
        return now.keys.contains(holder);
    }

    public int presentedCount() {
        return now.keys.size();
    }

    public int presentedAt(int place) {
        element(place >= 0 && place < now.keys.size());
        return now.keys.get(place);
    }

    public int toldSecret() {
        element(now.curve != null && now.keys.size() >= now.threshold);
        return told(0);
    }

    public int toldSecretByElimination() {
        return toldSecret();
    }

    public int toldValue(int position) {
        range(position, 0, 96);
        toldSecret();
        return told(position);
    }

    public boolean doAgree() {
        toldSecret();
        return isOnOnePolynomial(now.keys);
    }

    public int mostAgreeing() {
        toldSecret();
        return mostOf(0, new ArrayList<>());
    }

    private int mostOf(int place, List<Integer> chosen) {
        if (place == now.keys.size()) {
            return isOnOnePolynomial(chosen) ? chosen.size() : 0;
        }
        int without = mostOf(place + 1, chosen);
        List<Integer> more = new ArrayList<>(chosen);
        more.add(now.keys.get(place));
        return Math.max(without, mostOf(place + 1, more));
    }

    public int mostAgreeingBySets() {
        return mostAgreeing();
    }

    public boolean isOpen() {
        return now.open;
    }

    public int lockedHours() {
        return now.locked;
    }

    public int failedAttempts() {
        return now.failed;
    }

    public int guardCount() {
        return now.guards.size();
    }

    public int zoneOf(int guard) {
        index(guard, now.guards.size());
        return now.guards.get(guard)[0];
    }

    public boolean isForwards(int guard) {
        index(guard, now.guards.size());
        return now.guards.get(guard)[1] == 1;
    }

    public int noise(int zone) {
        range(zone, 0, 7);
        return now.noise[zone];
    }

    public boolean isGuarded(int zone) {
        range(zone, 0, 7);
        return isIn(zone) || isIn((zone + 1) % 8) || isIn((zone + 7) % 8);
    }

    public int hoursUntilVisit(int zone) {
        range(zone, 0, 7);
        element(!now.guards.isEmpty());
        Facts before = now;
        now = now.copy();
        int hours = 0;
        while (!isIn(zone)) {
            passHour();
            hours++;
        }
        now = before;
        return hours;
    }

    public int hoursUntilVisitByRemainders(int zone) {
        return hoursUntilVisit(zone);
    }

    public int alarmsIn(int hours) {
        range(hours, 0, 24);
        Facts before = now;
        now = now.copy();
        int alarms = alarmsBy(hours);
        now = before;
        return alarms;
    }

    public int zoneByNoise(int rank) {
        element(rank >= 0 && rank < 8);
        Integer[] zones = {0, 1, 2, 3, 4, 5, 6, 7};
        Arrays.sort(zones, Comparator.comparing((Integer zone) -> -now.noise[zone])
            .thenComparing(zone -> -now.alarms[zone]).thenComparing(zone -> zone));
        return zones[rank];
    }

    public int alarmsOf(int zone) {
        range(zone, 0, 7);
        return now.alarms[zone];
    }

    public int alarmCount() {
        return Arrays.stream(now.alarms).sum();
    }

    public int openingCount() {
        return now.openings;
    }

    public int logCount() {
        return now.log.size();
    }

    public int logHour(int place) {
        return (Integer) entry(place)[0];
    }

    public char logKind(int place) {
        return (Character) entry(place)[1];
    }

    public int logDetail(int place) {
        return (Integer) entry(place)[2];
    }

    private Object[] entry(int place) {
        element(place >= 0 && place < now.log.size());
        return now.log.get(place);
    }

    public double meanNoise() {
        return (double) Arrays.stream(now.noise).sum() / 8;
    }

    public float alarmShare(int zone) {
        range(zone, 0, 7);
        if (alarmCount() == 0) {
            throw new ArithmeticException();
        }
        return (float) now.alarms[zone] / (float) alarmCount();
    }

    public boolean isConsistent() {
        return true;
    }

    public int refusalReason() {
        element(refusal != null);
        return refusal[0];
    }

    public int refusalDetail() {
        element(refusal != null);
        return refusal[1];
    }

    public int refusalCause() {
        element(refusal != null && refusal[2] != null);
        return refusal[2];
    }

    public int feed(char character) {
        state(input.length() < 60);
        input += character;
        return input.length();
    }

    public int runCommands() {
        String text = input;
        input = "";
        if (!FormTest.TEXT.matcher(text).matches()) {
            error = FormTest.firstWrong(text);
            throw new IllegalArgumentException();
        }
        return recorded(() -> {
            String[] commands = text.split(";");
            for (int command = 0; command < commands.length; command++) {
                int cause = causeOf(commands[command]);
                if (cause != 0) {
                    refusal = new Integer[] {11, command, cause};
                    throw new UnsupportedOperationException();
                }
            }
            return commands.length;
        });
    }

    private int causeOf(String command) {
        Model inner = new Model();
        inner.now = now;
        try {
            return inner.carryOut(command) ? 0 : 12;
        } catch (UnsupportedOperationException refused) {
            return inner.refusalReason();
        } catch (RuntimeException other) {
            return 12;
        }
    }

    private boolean carryOut(String command) {
        int[] numbers = NUMBER.matcher(command).results().map(MatchResult::group).mapToInt(Integer::parseInt).toArray();
        switch (command.replaceAll("[^a-z]", "")) {
            case "holder" -> addHolder();
            case "seal" -> seal(numbers[0], numbers[1], numbers[2], numbers[3]);
            case "share" -> setShare(numbers[0], numbers[1]);
            case "give" -> present(numbers[0]);
            case "back" -> takeBack(numbers[0]);
            case "open" -> {
                return openVault();
            }
            case "close" -> closeVault();
            case "guard" -> addGuard(numbers[0], command.contains("+"), numbers[1]);
            case "turn" -> turnGuard(numbers[0]);
            case "hum" -> hum(numbers[0], numbers[1]);
            case "wait" -> passHours(numbers.length == 0 ? 1 : numbers[0]);
            default -> throw new AssertionError(command);
        }
        return true;
    }

    public int errorPosition() {
        element(error != null);
        return error;
    }

    public int writeZones() {
        List<String> zones = new ArrayList<>();
        for (int zone = 0; zone < 8; zone++) {
            StringBuilder text = new StringBuilder().append(now.noise[zone]);
            for (int[] guard : now.guards) {
                text.append(guard[0] != zone ? "" : guard[1] == 1 ? ">" : "<");
            }
            zones.add(text.toString());
        }
        output = String.join(" ", zones);
        return output.length();
    }

    public int writeLog() {
        output = String.join(" ", now.log.stream().map(entry -> "" + entry[0] + entry[1] + entry[2]).toList());
        return output.length();
    }

    int outputLength() {
        return output.length();
    }

    public char outputChar(int index) {
        index(index, output.length());
        return output.charAt(index);
    }

    public int undoCount() {
        return past.size();
    }

    public int undo() {
        state(!past.isEmpty());
        now = past.removeLast();
        return past.size();
    }

    public int save() {
        saved = now.copy();
        return saved.shares.size();
    }

    public int restore() {
        state(saved != null);
        now = saved.copy();
        past.clear();
        return now.shares.size();
    }
}

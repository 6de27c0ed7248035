import java.util.NoSuchElementException;

/** A vault that opens by enough of its keys. */
public final class ShareVault {
    private static final int MODULUS = 97;
    private static final int MAX_HOLDERS = 8;
    private static final int MAX_THRESHOLD = 3;
    private static final int MAX_ATTEMPTS = 3;
    private static final int LOCK_HOURS = 6;
    private static final int ZONES = 8;
    private static final int VAULT_ZONE = 0;
    private static final int MAX_NOISE = 20;
    private static final int ALARM_NOISE = 5;
    private static final int MAX_LOUDNESS = 9;
    private static final int MAX_GUARDS = 3;
    private static final int MAX_PERIOD = 4;
    private static final int MAX_HOURS = 24;
    private static final int MAX_ENTRIES = 12;
    private static final int MAX_UNDO = 8;
    private static final int MAX_INPUT = 60;
    private static final int MAX_OUTPUT = 200;

    // What a call comes to: FINE, a reason from 1 to 11, or one of the numbers below 0.
    private static final int FINE = 0;
    private static final int NO_SUCH_INDEX = -1;
    private static final int BAD_ARGUMENT = -2;
    private static final int FAILED_ATTEMPT = -3;
    private static final int LIMIT_REACHED = 1;
    private static final int FEW_HOLDERS = 2;
    private static final int NOT_SEALED = 3;
    private static final int KEY_PRESENTED = 4;
    private static final int KEY_NOT_PRESENTED = 5;
    private static final int VAULT_OPEN = 6;
    private static final int VAULT_LOCKED = 7;
    private static final int FEW_KEYS = 8;
    private static final int VAULT_UNGUARDED = 9;
    private static final int VAULT_CLOSED = 10;
    private static final int COMMAND_FAILED = 11;
    private static final int OTHER_CAUSE = 12;

    private static final int NONE = -1;

    // The number at an index from 1 to 96 is the one whose product with the index is 1; the index 0 has none.
    private static final int[] INVERSES = {
        0, 1, 49, 65, 73, 39, 81, 14, 85, 54, 68, 53, 89, 15, 7, 13,
        91, 40, 27, 46, 34, 37, 75, 38, 93, 66, 56, 18, 52, 87, 55, 72,
        94, 50, 20, 61, 62, 21, 23, 5, 17, 71, 67, 88, 86, 69, 19, 64,
        95, 2, 33, 78, 28, 11, 9, 30, 26, 80, 92, 74, 76, 35, 36, 77,
        47, 3, 25, 42, 10, 45, 79, 41, 31, 4, 59, 22, 60, 63, 51, 70,
        57, 6, 84, 90, 82, 8, 44, 29, 43, 12, 83, 16, 58, 24, 32, 48,
        96
    };

    private final State state = new State();
    private final History history = new History();
    private final State saved = new State();
    private boolean isSaved;
    private final Building forecast = new Building();
    private final Solver solver = new Solver();
    private final Commands commands = new Commands();
    private final Output output = new Output();
    private int lastReason = NONE;
    private int lastDetail;
    private int lastCause = NONE;
    private int lastError = NONE;

    public ShareVault() {
    }

    public int addHolder() throws UnsupportedOperationException {
        history.prepare(state);
        return settle(state.tryHolder(), MAX_HOLDERS);
    }

    public int seal(int secret, int first, int second, int threshold)
            throws IllegalArgumentException, UnsupportedOperationException {
        history.prepare(state);
        return settle(state.trySeal(secret, first, second, threshold), 0);
    }

    public int setShare(int holder, int share)
            throws IndexOutOfBoundsException, IllegalArgumentException, UnsupportedOperationException {
        history.prepare(state);
        return settle(state.tryShare(holder, share), holder);
    }

    public int present(int holder) throws IndexOutOfBoundsException, UnsupportedOperationException {
        history.prepare(state);
        return settle(state.tryPresent(holder), holder);
    }

    public int takeBack(int holder) throws IndexOutOfBoundsException, UnsupportedOperationException {
        history.prepare(state);
        return settle(state.tryTakeBack(holder), holder);
    }

    public boolean openVault() throws UnsupportedOperationException {
        history.prepare(state);
        return settle(state.tryOpen(), 0) == 1;
    }

    public int closeVault() throws UnsupportedOperationException {
        history.prepare(state);
        return settle(state.tryClose(), 0);
    }

    public int addGuard(int zone, boolean forwards, int period)
            throws IllegalArgumentException, UnsupportedOperationException {
        history.prepare(state);
        return settle(state.tryGuard(zone, forwards, period), MAX_GUARDS);
    }

    public boolean turnGuard(int guard) throws IndexOutOfBoundsException {
        history.prepare(state);
        return settle(state.tryTurn(guard), 0) == 1;
    }

    public int hum(int zone, int loudness) throws IllegalArgumentException {
        history.prepare(state);
        return settle(state.tryHum(zone, loudness), 0);
    }

    public int passHours(int hours) throws IllegalArgumentException {
        history.prepare(state);
        return settle(state.tryHours(hours), 0);
    }

    public int hour() {
        return state.building.hour;
    }

    public int holderCount() {
        return state.keys.holderCount;
    }

    public boolean isSealed() {
        return state.keys.sealed;
    }

    public int threshold() throws NoSuchElementException {
        requireSeal();
        return state.keys.threshold;
    }

    public int share(int holder) throws IndexOutOfBoundsException, NoSuchElementException {
        requireHolder(holder);
        requireSeal();
        return state.keys.shares[holder];
    }

    public boolean isCorrect(int holder) throws IndexOutOfBoundsException, NoSuchElementException {
        requireHolder(holder);
        requireSeal();
        return state.keys.shares[holder] == state.keys.correctShare(holder);
    }

    public boolean isPresented(int holder) throws IndexOutOfBoundsException {
        requireHolder(holder);
        return state.keys.placeOf(holder) != NONE;
    }

    public int presentedCount() {
        return state.keys.presentedCount;
    }

    public int presentedAt(int place) throws NoSuchElementException {
        if (place < 0 || place >= state.keys.presentedCount) {
            throw new NoSuchElementException("no key is presented at this place");
        }
        return state.keys.presented[place];
    }

    public int toldSecret() throws NoSuchElementException {
        requireEnoughKeys();
        return state.keys.toldAt(0);
    }

    public int toldSecretByElimination() throws NoSuchElementException {
        requireEnoughKeys();
        return solver.secretOf(state.keys);
    }

    public int toldValue(int position) throws IllegalArgumentException, NoSuchElementException {
        if (position < 0 || position >= MODULUS) {
            throw new IllegalArgumentException("the position is out of range");
        }
        requireEnoughKeys();
        return state.keys.toldAt(position);
    }

    public boolean doAgree() throws NoSuchElementException {
        requireEnoughKeys();
        return state.keys.allAgree();
    }

    public int mostAgreeing() throws NoSuchElementException {
        requireEnoughKeys();
        return solver.mostOnCurves(state.keys);
    }

    public int mostAgreeingBySets() throws NoSuchElementException {
        requireEnoughKeys();
        return solver.mostInSets(state.keys);
    }

    public boolean isOpen() {
        return state.door.open;
    }

    public int lockedHours() {
        return state.door.lockedHours;
    }

    public int failedAttempts() {
        return state.door.failedAttempts;
    }

    public int guardCount() {
        return state.building.guardCount;
    }

    public int zoneOf(int guard) throws IndexOutOfBoundsException {
        requireGuard(guard);
        return state.building.guardZones[guard];
    }

    public boolean isForwards(int guard) throws IndexOutOfBoundsException {
        requireGuard(guard);
        return state.building.forwards[guard];
    }

    public int noise(int zone) throws IllegalArgumentException {
        requireZone(zone);
        return state.building.noise[zone];
    }

    public boolean isGuarded(int zone) throws IllegalArgumentException {
        requireZone(zone);
        return state.building.hasGuardIn(zone) || state.building.hasGuardBeside(zone);
    }

    public int hoursUntilVisit(int zone) throws IllegalArgumentException, NoSuchElementException {
        requireZone(zone);
        requireGuards();
        return visitByHours(zone);
    }

    public int hoursUntilVisitByRemainders(int zone) throws IllegalArgumentException, NoSuchElementException {
        requireZone(zone);
        requireGuards();
        return state.building.visitByRemainders(zone);
    }

    public int alarmsIn(int hours) throws IllegalArgumentException {
        if (hours < 0 || hours > MAX_HOURS) {
            throw new IllegalArgumentException("the number of hours is out of range");
        }
        forecast.copyFrom(state.building);
        for (int passed = 0; passed < hours; passed++) {
            forecast.passOneHour();
        }
        return forecast.alarmCount - state.building.alarmCount;
    }

    public int zoneByNoise(int rank) throws NoSuchElementException {
        if (rank < 0 || rank >= ZONES) {
            throw new NoSuchElementException("there is no such rank");
        }
        return state.building.zoneAtRank(rank);
    }

    public int alarmsOf(int zone) throws IllegalArgumentException {
        requireZone(zone);
        return state.building.alarms[zone];
    }

    public int alarmCount() {
        return state.building.alarmCount;
    }

    public int openingCount() {
        return state.door.openingCount;
    }

    public int logCount() {
        return state.journal.count;
    }

    public int logHour(int place) throws NoSuchElementException {
        requireEntry(place);
        return state.journal.hours[place];
    }

    public char logKind(int place) throws NoSuchElementException {
        requireEntry(place);
        return state.journal.kinds[place];
    }

    public int logDetail(int place) throws NoSuchElementException {
        requireEntry(place);
        return state.journal.details[place];
    }

    public double meanNoise() {
        return (double) Building.sumOf(state.building.noise) / ZONES;
    }

    public float alarmShare(int zone) throws IllegalArgumentException, ArithmeticException {
        requireZone(zone);
        if (state.building.alarmCount == 0) {
            throw new ArithmeticException("no alarm was raised");
        }
        return (float) state.building.alarms[zone] / (float) state.building.alarmCount;
    }

    public boolean isConsistent() {
        return Building.sumOf(state.building.alarms) == state.building.alarmCount
                && doVisitsMatch()
                && doTellingsMatch();
    }

    public int refusalReason() throws NoSuchElementException {
        requireRefusal();
        return lastReason;
    }

    public int refusalDetail() throws NoSuchElementException {
        requireRefusal();
        return lastDetail;
    }

    public int refusalCause() throws NoSuchElementException {
        if (lastCause == NONE) {
            throw new NoSuchElementException("there is no refusal with a cause");
        }
        return lastCause;
    }

    public int feed(char character) throws IllegalStateException {
        if (commands.length >= MAX_INPUT) {
            throw new IllegalStateException("the input buffer is full");
        }
        return commands.append(character);
    }

    public int runCommands() throws IllegalArgumentException, UnsupportedOperationException {
        int error = commands.parse();
        commands.clear();
        if (error != NONE) {
            lastError = error;
            throw new IllegalArgumentException("the text is malformed");
        }
        history.prepare(state);
        for (int place = 0; place < commands.count; place++) {
            int verdict = state.tryCommand(commands.words[place], commands.numbers[place]);
            if (verdict != FINE) {
                state.copyFrom(history.prepared());
                keepRefusal(COMMAND_FAILED, place, verdict > FINE ? verdict : OTHER_CAUSE);
                throw new UnsupportedOperationException("a command fails");
            }
        }
        history.keep();
        return commands.count;
    }

    public int errorPosition() throws NoSuchElementException {
        if (lastError == NONE) {
            throw new NoSuchElementException("no text was malformed");
        }
        return lastError;
    }

    public int writeZones() {
        output.clear();
        for (int zone = 0; zone < ZONES; zone++) {
            output.startItem(zone);
            output.putNumber(state.building.noise[zone]);
            putGuardsIn(zone);
        }
        return output.length;
    }

    public int writeLog() {
        output.clear();
        Journal journal = state.journal;
        for (int place = 0; place < journal.count; place++) {
            output.startItem(place);
            output.putNumber(journal.hours[place]);
            output.put(journal.kinds[place]);
            output.putNumber(journal.details[place]);
        }
        return output.length;
    }

    public char outputChar(int index) throws IndexOutOfBoundsException {
        if (index < 0 || index >= output.length) {
            throw new IndexOutOfBoundsException("there is no such character");
        }
        return output.signs[index];
    }

    public int undoCount() {
        return history.count;
    }

    public int undo() throws IllegalStateException {
        if (history.count == 0) {
            throw new IllegalStateException("no call can be undone");
        }
        state.copyFrom(history.takeLatest());
        return history.count;
    }

    public int save() {
        saved.copyFrom(state);
        isSaved = true;
        return state.keys.holderCount;
    }

    public int restore() throws IllegalStateException {
        if (!isSaved) {
            throw new IllegalStateException("no state was saved");
        }
        state.copyFrom(saved);
        history.clear();
        return state.keys.holderCount;
    }

    /** Ends a recorded call: throws what its verdict asks for, or keeps the state from before it. */
    private int settle(int verdict, int subject) {
        if (verdict == NO_SUCH_INDEX) {
            throw new IndexOutOfBoundsException("there is no such index");
        }
        if (verdict == BAD_ARGUMENT) {
            throw new IllegalArgumentException("an argument is out of range");
        }
        if (verdict != FINE) {
            keepRefusal(verdict, state.detailOf(verdict, subject), NONE);
            throw new UnsupportedOperationException("the call is refused");
        }
        history.keep();
        return state.answer;
    }

    private void keepRefusal(int reason, int detail, int cause) {
        lastReason = reason;
        lastDetail = detail;
        lastCause = cause;
    }

    private void requireHolder(int holder) {
        if (!state.keys.hasHolder(holder)) {
            throw new IndexOutOfBoundsException("there is no such holder");
        }
    }

    private void requireGuard(int guard) {
        if (!state.building.hasGuard(guard)) {
            throw new IndexOutOfBoundsException("there is no such guard");
        }
    }

    private void requireGuards() {
        if (state.building.guardCount == 0) {
            throw new NoSuchElementException("there are no guards");
        }
    }

    private void requireZone(int zone) {
        if (!Building.hasZone(zone)) {
            throw new IllegalArgumentException("there is no such zone");
        }
    }

    private void requireSeal() {
        if (!state.keys.sealed) {
            throw new NoSuchElementException("the vault has not been sealed");
        }
    }

    private void requireEnoughKeys() {
        if (!state.keys.areEnough()) {
            throw new NoSuchElementException("too few keys are presented");
        }
    }

    private void requireEntry(int place) {
        if (place < 0 || place >= state.journal.count) {
            throw new NoSuchElementException("there is no such log entry");
        }
    }

    private void requireRefusal() {
        if (lastReason == NONE) {
            throw new NoSuchElementException("no call was refused");
        }
    }

    private int visitByHours(int zone) {
        forecast.copyFrom(state.building);
        int hours = 0;
        // A guard is everywhere once within the hours of a full round.
        while (hours < ZONES * MAX_PERIOD && !forecast.hasGuardIn(zone)) {
            forecast.beginHour();
            hours++;
        }
        return hours;
    }

    private boolean doVisitsMatch() {
        if (state.building.guardCount == 0) {
            return true;
        }
        for (int zone = 0; zone < ZONES; zone++) {
            if (visitByHours(zone) != state.building.visitByRemainders(zone)) {
                return false;
            }
        }
        return true;
    }

    private boolean doTellingsMatch() {
        Keys keys = state.keys;
        if (!keys.areEnough()) {
            return true;
        }
        return keys.toldAt(0) == solver.secretOf(keys)
                && solver.mostOnCurves(keys) == solver.mostInSets(keys);
    }

    private void putGuardsIn(int zone) {
        Building building = state.building;
        for (int guard = 0; guard < building.guardCount; guard++) {
            if (building.guardZones[guard] == zone) {
                output.put(building.forwards[guard] ? '>' : '<');
            }
        }
    }

    /** The holders with their shares, the seal, and the presented keys. */
    private static final class Keys {
        int holderCount;
        final int[] shares = new int[MAX_HOLDERS];
        boolean sealed;
        int threshold;
        final int[] curve = new int[MAX_THRESHOLD];
        int presentedCount;
        final int[] presented = new int[MAX_HOLDERS];

        void copyFrom(Keys other) {
            holderCount = other.holderCount;
            System.arraycopy(other.shares, 0, shares, 0, MAX_HOLDERS);
            sealed = other.sealed;
            threshold = other.threshold;
            System.arraycopy(other.curve, 0, curve, 0, MAX_THRESHOLD);
            presentedCount = other.presentedCount;
            System.arraycopy(other.presented, 0, presented, 0, MAX_HOLDERS);
        }

        static int positionOf(int holder) {
            return holder + 1;
        }

        static boolean isResidue(int number) {
            return number >= 0 && number < MODULUS;
        }

        boolean hasHolder(int holder) {
            return holder >= 0 && holder < holderCount;
        }

        boolean areEnough() {
            return sealed && presentedCount >= threshold;
        }

        static int valueOn(int[] polynomial, int position) {
            int value = 0;
            for (int power = polynomial.length - 1; power >= 0; power--) {
                value = (value * position + polynomial[power]) % MODULUS;
            }
            return value;
        }

        int correctShare(int holder) {
            return valueOn(curve, positionOf(holder));
        }

        int placeOf(int holder) {
            for (int place = 0; place < presentedCount; place++) {
                if (presented[place] == holder) {
                    return place;
                }
            }
            return NONE;
        }

        int join() {
            int holder = holderCount;
            holderCount++;
            shares[holder] = correctShare(holder);
            return holder;
        }

        void sealWith(int secret, int first, int second, int newThreshold) {
            sealed = true;
            threshold = newThreshold;
            curve[0] = secret;
            curve[1] = newThreshold == 1 ? 0 : first;
            curve[2] = newThreshold < MAX_THRESHOLD ? 0 : second;
            presentedCount = 0;
            for (int holder = 0; holder < holderCount; holder++) {
                shares[holder] = correctShare(holder);
            }
        }

        int show(int holder) {
            presented[presentedCount] = holder;
            presentedCount++;
            return presentedCount;
        }

        int hide(int place) {
            presentedCount--;
            for (int later = place; later < presentedCount; later++) {
                presented[later] = presented[later + 1];
            }
            return presentedCount;
        }

        int toldAt(int position) {
            return valueThrough(presented, position);
        }

        boolean allAgree() {
            return isOneCurve(presented, presentedCount);
        }

        boolean tellTheSecret() {
            return isOneCurve(presented, presentedCount) && toldAt(0) == curve[0];
        }

        /** Whether the shares of so many first holders, no fewer than the threshold, agree. */
        boolean isOneCurve(int[] holders, int count) {
            for (int place = threshold; place < count; place++) {
                int holder = holders[place];
                if (shares[holder] != valueThrough(holders, positionOf(holder))) {
                    return false;
                }
            }
            return true;
        }

        /** The value of the polynomial through the shares of the first holders, as many as the threshold says. */
        private int valueThrough(int[] holders, int position) {
            int value = 0;
            for (int term = 0; term < threshold; term++) {
                value += shares[holders[term]] * quotientsOf(holders, term, position);
            }
            return value % MODULUS;
        }

        private int quotientsOf(int[] holders, int term, int position) {
            // Positions differ by as much as the indices do, so indices are subtracted.
            int index = position - 1;
            int above = 1;
            int below = 1;
            for (int other = 0; other < threshold; other++) {
                if (other != term) {
                    above = above * (index - holders[other] + MODULUS) % MODULUS;
                    below = below * (holders[term] - holders[other] + MODULUS) % MODULUS;
                }
            }
            return above * INVERSES[below] % MODULUS;
        }
    }

    /** Finds the told secret and the agreeing keys; its rows are made once and used by every call. */
    private static final class Solver {
        private final int[][] equations = new int[MAX_THRESHOLD][MAX_THRESHOLD + 1];
        private final int[] polynomial = new int[MAX_THRESHOLD];
        private final int[] chosen = new int[MAX_HOLDERS];

        int secretOf(Keys keys) {
            fit(keys, keys.presented);
            return polynomial[0];
        }

        int mostOnCurves(Keys keys) {
            int most = 0;
            for (int set = 1; set < 1 << keys.presentedCount; set++) {
                if (Integer.bitCount(set) == keys.threshold) {
                    choose(keys, set);
                    fit(keys, chosen);
                    most = Math.max(most, countOnCurve(keys));
                }
            }
            return most;
        }

        int mostInSets(Keys keys) {
            int most = 0;
            for (int set = 1; set < 1 << keys.presentedCount; set++) {
                int size = Integer.bitCount(set);
                if (size > most) {
                    choose(keys, set);
                    if (keys.isOneCurve(chosen, size)) {
                        most = size;
                    }
                }
            }
            return most;
        }

        private void choose(Keys keys, int set) {
            int count = 0;
            for (int place = 0; place < keys.presentedCount; place++) {
                if ((set >> place & 1) == 1) {
                    chosen[count] = keys.presented[place];
                    count++;
                }
            }
        }

        private int countOnCurve(Keys keys) {
            int count = 0;
            for (int place = 0; place < keys.presentedCount; place++) {
                int holder = keys.presented[place];
                if (keys.shares[holder] == Keys.valueOn(polynomial, Keys.positionOf(holder))) {
                    count++;
                }
            }
            return count;
        }

        /** Finds the polynomial through the shares of the first holders, as many as the threshold says. */
        private void fit(Keys keys, int[] holders) {
            int size = keys.threshold;
            for (int row = 0; row < size; row++) {
                setEquation(row, size, holders[row], keys.shares[holders[row]]);
            }
            for (int column = 0; column < size; column++) {
                eliminate(column, size);
            }
            for (int power = 0; power < MAX_THRESHOLD; power++) {
                polynomial[power] = power < size ? equations[power][size] : 0;
            }
        }

        private void setEquation(int row, int size, int holder, int share) {
            int power = 1;
            for (int column = 0; column < size; column++) {
                equations[row][column] = power;
                power = power * Keys.positionOf(holder) % MODULUS;
            }
            equations[row][size] = share;
        }

        private void eliminate(int column, int size) {
            int[] pivot = equations[column];
            // No rows are exchanged: the positions differ, so that this number is never 0.
            int factor = INVERSES[pivot[column]];
            for (int place = column; place <= size; place++) {
                pivot[place] = pivot[place] * factor % MODULUS;
            }
            for (int row = 0; row < size; row++) {
                if (row != column) {
                    subtract(equations[row], pivot, column, size);
                }
            }
        }

        private static void subtract(int[] row, int[] pivot, int column, int size) {
            int factor = row[column];
            for (int place = column; place <= size; place++) {
                row[place] = Math.floorMod(row[place] - factor * pivot[place], MODULUS);
            }
        }
    }

    /** Whether the vault is open or locked, and what counts for it. */
    private static final class Door {
        boolean open;
        int lockedHours;
        int failedAttempts;
        int openingCount;

        void copyFrom(Door other) {
            open = other.open;
            lockedHours = other.lockedHours;
            failedAttempts = other.failedAttempts;
            openingCount = other.openingCount;
        }

        void shutAnew() {
            open = false;
            lockedHours = 0;
            failedAttempts = 0;
        }

        void swingOpen() {
            open = true;
            failedAttempts = 0;
            openingCount++;
        }

        void countFailure() {
            failedAttempts++;
            if (failedAttempts == MAX_ATTEMPTS) {
                failedAttempts = 0;
                lockedHours = LOCK_HOURS;
            }
        }

        void passOneHour() {
            if (lockedHours > 0) {
                lockedHours--;
            }
        }
    }

    /** The hour, the zones with their noise and alarms, and the guards. */
    private static final class Building {
        int hour;
        final int[] noise = new int[ZONES];
        final int[] alarms = new int[ZONES];
        int alarmCount;
        int guardCount;
        final int[] guardZones = new int[MAX_GUARDS];
        final boolean[] forwards = new boolean[MAX_GUARDS];
        final int[] periods = new int[MAX_GUARDS];

        void copyFrom(Building other) {
            hour = other.hour;
            System.arraycopy(other.noise, 0, noise, 0, ZONES);
            System.arraycopy(other.alarms, 0, alarms, 0, ZONES);
            alarmCount = other.alarmCount;
            guardCount = other.guardCount;
            System.arraycopy(other.guardZones, 0, guardZones, 0, MAX_GUARDS);
            System.arraycopy(other.periods, 0, periods, 0, MAX_GUARDS);
            for (int guard = 0; guard < MAX_GUARDS; guard++) {
                forwards[guard] = other.forwards[guard];
            }
        }

        static boolean hasZone(int zone) {
            return zone >= 0 && zone < ZONES;
        }

        static int sumOf(int[] numbers) {
            int sum = 0;
            for (int number : numbers) {
                sum += number;
            }
            return sum;
        }

        boolean hasGuard(int guard) {
            return guard >= 0 && guard < guardCount;
        }

        boolean hasGuardIn(int zone) {
            for (int guard = 0; guard < guardCount; guard++) {
                if (guardZones[guard] == zone) {
                    return true;
                }
            }
            return false;
        }

        boolean hasGuardBeside(int zone) {
            return hasGuardIn((zone + 1) % ZONES) || hasGuardIn((zone + ZONES - 1) % ZONES);
        }

        int placeGuard(int zone, boolean isForward, int period) {
            int guard = guardCount;
            guardCount++;
            guardZones[guard] = zone;
            forwards[guard] = isForward;
            periods[guard] = period;
            return guard;
        }

        /** The first two steps of an hour: the hour increases, and the guards walk. */
        void beginHour() {
            hour++;
            for (int guard = 0; guard < guardCount; guard++) {
                if (hour % periods[guard] == 0) {
                    int step = forwards[guard] ? 1 : ZONES - 1;
                    guardZones[guard] = (guardZones[guard] + step) % ZONES;
                }
            }
        }

        /** Returns the zones in which alarms are raised, as the bits of a number. */
        int passOneHour() {
            beginHour();
            int raised = 0;
            for (int zone = 0; zone < ZONES; zone++) {
                if (hasGuardIn(zone)) {
                    noise[zone] = 0;
                } else if (noise[zone] >= ALARM_NOISE && !hasGuardBeside(zone)) {
                    noise[zone] = 0;
                    alarms[zone]++;
                    alarmCount++;
                    raised |= 1 << zone;
                } else if (noise[zone] > 0) {
                    noise[zone]--;
                }
            }
            return raised;
        }

        int visitByRemainders(int zone) {
            int least = ZONES * MAX_PERIOD;
            for (int guard = 0; guard < guardCount; guard++) {
                least = Math.min(least, visitOf(guard, zone));
            }
            return least;
        }

        private int visitOf(int guard, int zone) {
            int ahead = forwards[guard] ? zone - guardZones[guard] : guardZones[guard] - zone;
            int steps = Math.floorMod(ahead, ZONES);
            return steps == 0 ? 0 : steps * periods[guard] - hour % periods[guard];
        }

        int zoneAtRank(int rank) {
            for (int zone = 0; zone < ZONES; zone++) {
                if (rankOf(zone) == rank) {
                    return zone;
                }
            }
            return NONE;
        }

        private int rankOf(int zone) {
            int rank = 0;
            for (int other = 0; other < ZONES; other++) {
                if (comesBefore(other, zone)) {
                    rank++;
                }
            }
            return rank;
        }

        private boolean comesBefore(int zone, int other) {
            if (noise[zone] != noise[other]) {
                return noise[zone] > noise[other];
            }
            if (alarms[zone] != alarms[other]) {
                return alarms[zone] > alarms[other];
            }
            return zone < other;
        }
    }

    /** The latest log entries, the oldest first. */
    private static final class Journal {
        int count;
        final int[] hours = new int[MAX_ENTRIES];
        final char[] kinds = new char[MAX_ENTRIES];
        final int[] details = new int[MAX_ENTRIES];

        void copyFrom(Journal other) {
            count = other.count;
            System.arraycopy(other.hours, 0, hours, 0, MAX_ENTRIES);
            System.arraycopy(other.kinds, 0, kinds, 0, MAX_ENTRIES);
            System.arraycopy(other.details, 0, details, 0, MAX_ENTRIES);
        }

        void enter(int hour, char kind, int detail) {
            if (count == MAX_ENTRIES) {
                dropOldest();
            }
            hours[count] = hour;
            kinds[count] = kind;
            details[count] = detail;
            count++;
        }

        private void dropOldest() {
            count--;
            System.arraycopy(hours, 1, hours, 0, count);
            System.arraycopy(kinds, 1, kinds, 0, count);
            System.arraycopy(details, 1, details, 0, count);
        }
    }

    /**
     * All that can be undone and saved. Each try method returns a verdict; if that is FINE, the change
     * is made and its number is in answer, otherwise nothing has changed (but by a FAILED_ATTEMPT).
     */
    private static final class State {
        final Keys keys = new Keys();
        final Door door = new Door();
        final Building building = new Building();
        final Journal journal = new Journal();
        int answer;

        void copyFrom(State other) {
            keys.copyFrom(other.keys);
            door.copyFrom(other.door);
            building.copyFrom(other.building);
            journal.copyFrom(other.journal);
        }

        /** The detail of a refusal; the subject is the limit for reason 1, and the holder for 4 and 5. */
        int detailOf(int reason, int subject) {
            switch (reason) {
                case LIMIT_REACHED:
                case KEY_NOT_PRESENTED:
                    return subject;
                case FEW_HOLDERS:
                    return keys.holderCount;
                case KEY_PRESENTED:
                    return keys.placeOf(subject);
                case VAULT_OPEN:
                    return keys.presentedCount;
                case VAULT_LOCKED:
                    return door.lockedHours;
                case FEW_KEYS:
                    return keys.threshold - keys.presentedCount;
                case VAULT_UNGUARDED:
                    return building.guardCount;
                case VAULT_CLOSED:
                    return door.failedAttempts;
                default:
                    return 0;
            }
        }

        int tryHolder() {
            if (keys.holderCount >= MAX_HOLDERS) {
                return LIMIT_REACHED;
            }
            answer = keys.join();
            return FINE;
        }

        int trySeal(int secret, int first, int second, int threshold) {
            if (!Keys.isResidue(secret) || !Keys.isResidue(first) || !Keys.isResidue(second)
                    || threshold < 1 || threshold > MAX_THRESHOLD) {
                return BAD_ARGUMENT;
            }
            if (keys.holderCount < threshold) {
                return FEW_HOLDERS;
            }
            keys.sealWith(secret, first, second, threshold);
            door.shutAnew();
            answer = keys.holderCount;
            return FINE;
        }

        int tryShare(int holder, int share) {
            if (!keys.hasHolder(holder)) {
                return NO_SUCH_INDEX;
            }
            if (!Keys.isResidue(share)) {
                return BAD_ARGUMENT;
            }
            if (!keys.sealed) {
                return NOT_SEALED;
            }
            answer = keys.shares[holder];
            keys.shares[holder] = share;
            return FINE;
        }

        int tryPresent(int holder) {
            if (!keys.hasHolder(holder)) {
                return NO_SUCH_INDEX;
            }
            if (!keys.sealed) {
                return NOT_SEALED;
            }
            if (keys.placeOf(holder) != NONE) {
                return KEY_PRESENTED;
            }
            answer = keys.show(holder);
            return FINE;
        }

        int tryTakeBack(int holder) {
            if (!keys.hasHolder(holder)) {
                return NO_SUCH_INDEX;
            }
            if (!keys.sealed) {
                return NOT_SEALED;
            }
            int place = keys.placeOf(holder);
            if (place == NONE) {
                return KEY_NOT_PRESENTED;
            }
            answer = keys.hide(place);
            return FINE;
        }

        int tryOpen() {
            int verdict = verdictOnAttempt();
            if (verdict != FINE) {
                return verdict;
            }
            boolean success = keys.tellTheSecret();
            if (success) {
                door.swingOpen();
            } else {
                door.countFailure();
            }
            journal.enter(building.hour, success ? 'o' : 'f', keys.presentedCount);
            answer = success ? 1 : 0;
            return FINE;
        }

        private int verdictOnAttempt() {
            if (!keys.sealed) {
                return NOT_SEALED;
            }
            if (door.open) {
                return VAULT_OPEN;
            }
            if (door.lockedHours > 0) {
                return VAULT_LOCKED;
            }
            if (!keys.areEnough()) {
                return FEW_KEYS;
            }
            return building.hasGuardIn(VAULT_ZONE) ? FINE : VAULT_UNGUARDED;
        }

        int tryClose() {
            if (!keys.sealed) {
                return NOT_SEALED;
            }
            if (!door.open) {
                return VAULT_CLOSED;
            }
            answer = keys.presentedCount;
            keys.presentedCount = 0;
            door.open = false;
            journal.enter(building.hour, 'c', 0);
            return FINE;
        }

        int tryGuard(int zone, boolean forwards, int period) {
            if (!Building.hasZone(zone) || period < 1 || period > MAX_PERIOD) {
                return BAD_ARGUMENT;
            }
            if (building.guardCount >= MAX_GUARDS) {
                return LIMIT_REACHED;
            }
            answer = building.placeGuard(zone, forwards, period);
            return FINE;
        }

        int tryTurn(int guard) {
            if (!building.hasGuard(guard)) {
                return NO_SUCH_INDEX;
            }
            building.forwards[guard] = !building.forwards[guard];
            answer = building.forwards[guard] ? 1 : 0;
            return FINE;
        }

        int tryHum(int zone, int loudness) {
            if (!Building.hasZone(zone) || loudness < 1 || loudness > MAX_LOUDNESS) {
                return BAD_ARGUMENT;
            }
            building.noise[zone] = Math.min(MAX_NOISE, building.noise[zone] + loudness);
            answer = building.noise[zone];
            return FINE;
        }

        int tryHours(int hours) {
            if (hours < 1 || hours > MAX_HOURS) {
                return BAD_ARGUMENT;
            }
            int alarmsBefore = building.alarmCount;
            for (int passed = 0; passed < hours; passed++) {
                enterAlarms(building.passOneHour());
                door.passOneHour();
            }
            answer = building.alarmCount - alarmsBefore;
            return FINE;
        }

        private void enterAlarms(int raised) {
            for (int zone = 0; zone < ZONES; zone++) {
                if ((raised >> zone & 1) == 1) {
                    journal.enter(building.hour, 'a', zone);
                }
            }
        }

        int tryCommand(Word word, int[] numbers) {
            switch (word) {
                case HOLDER:
                    return tryHolder();
                case SEAL:
                    return trySeal(numbers[0], numbers[1], numbers[2], numbers[3]);
                case SHARE:
                    return tryShare(numbers[0], numbers[1]);
                case GIVE:
                    return tryPresent(numbers[0]);
                case BACK:
                    return tryTakeBack(numbers[0]);
                case OPEN:
                    return verdictOnOutcome(tryOpen());
                case CLOSE:
                    return tryClose();
                case GUARD:
                    return tryGuard(numbers[0], numbers[1] == 1, numbers[2]);
                case TURN:
                    return tryTurn(numbers[0]);
                case HUM:
                    return tryHum(numbers[0], numbers[1]);
                default:
                    return tryHours(numbers[0]);
            }
        }

        /** As a command, unlike as a call, an attempt that does not open the vault fails. */
        private int verdictOnOutcome(int verdict) {
            return verdict == FINE && answer == 0 ? FAILED_ATTEMPT : verdict;
        }
    }

    /** The states from before the latest calls, in a ring with one place more, for a call that may yet fail. */
    private static final class History {
        private static final int PLACES = MAX_UNDO + 1;

        private final State[] states = new State[PLACES];
        private int next;
        int count;

        History() {
            for (int place = 0; place < PLACES; place++) {
                states[place] = new State();
            }
        }

        void prepare(State state) {
            states[next].copyFrom(state);
        }

        State prepared() {
            return states[next];
        }

        void keep() {
            next = (next + 1) % PLACES;
            count = Math.min(count + 1, MAX_UNDO);
        }

        /** Asked only if there is a state. */
        State takeLatest() {
            next = (next + PLACES - 1) % PLACES;
            count--;
            return states[next];
        }

        void clear() {
            count = 0;
        }
    }

    /**
     * The commands. In a form, 'd' stands for a digit, 'n' for a number of one or two digits, and 's' for
     * a direction; what follows '?' may be missing, and counts 1 then.
     */
    private enum Word {
        HOLDER("holder", ""),
        SEAL("seal", " n n n n"),
        SHARE("share", " d n"),
        GIVE("give", " d"),
        BACK("back", " d"),
        OPEN("open", ""),
        CLOSE("close", ""),
        GUARD("guard", " dsd"),
        TURN("turn", " d"),
        HUM("hum", " d d"),
        WAIT("wait", "? n");

        final String letters;
        final String form;

        Word(String letters, String form) {
            this.letters = letters;
            this.form = form;
        }
    }

    /** The input buffer, and the commands that were read from it. */
    private static final class Commands {
        private static final Word[] WORDS = Word.values();
        private static final int MAX_COMMANDS = 15;
        private static final int MAX_NUMBERS = 4;
        private static final int END = -1;

        private final char[] signs = new char[MAX_INPUT];
        int length;
        private int at;
        int count;
        final Word[] words = new Word[MAX_COMMANDS];
        final int[][] numbers = new int[MAX_COMMANDS][MAX_NUMBERS];
        private int numberCount;

        int append(char sign) {
            signs[length] = sign;
            length++;
            return length;
        }

        void clear() {
            length = 0;
        }

        /** Returns the error position, or NONE if the text is well-formed. */
        int parse() {
            at = 0;
            count = 0;
            // Each command has four characters or more, so the text ends before the rows are full.
            for (int command = 0; command < MAX_COMMANDS && readCommand(); command++) {
                if (peek() == END) {
                    return NONE;
                }
                if (peek() != ';') {
                    return at;
                }
                at++;
            }
            return at;
        }

        private int peek() {
            return at < length ? signs[at] : END;
        }

        private boolean readCommand() {
            Word word = readWord();
            if (word == null) {
                return false;
            }
            words[count] = word;
            numberCount = 0;
            if (!readForm(word.form)) {
                return false;
            }
            count++;
            return true;
        }

        /** Without a word that stands here, the place is moved to the first wrong letter. */
        private Word readWord() {
            int most = 0;
            for (Word word : WORDS) {
                int matching = matchingLetters(word.letters);
                if (matching == word.letters.length()) {
                    at += matching;
                    return word;
                }
                most = Math.max(most, matching);
            }
            at += most;
            return null;
        }

        private int matchingLetters(String letters) {
            int matching = 0;
            while (matching < letters.length() && at + matching < length
                    && signs[at + matching] == letters.charAt(matching)) {
                matching++;
            }
            return matching;
        }

        private boolean readForm(String form) {
            for (int place = 0; place < form.length(); place++) {
                char part = form.charAt(place);
                if (part == '?') {
                    if (peek() != ' ') {
                        addNumber(1);
                        return true;
                    }
                } else if (!readPart(part)) {
                    return false;
                }
            }
            return true;
        }

        private boolean readPart(char part) {
            if (part == 'd') {
                return readNumber(1);
            }
            if (part == 'n') {
                return readNumber(2);
            }
            return part == 's' ? readDirection() : readBlank();
        }

        private boolean readBlank() {
            if (peek() != ' ') {
                return false;
            }
            at++;
            return true;
        }

        private boolean readDirection() {
            int sign = peek();
            if (sign != '+' && sign != '-') {
                return false;
            }
            at++;
            addNumber(sign == '+' ? 1 : 0);
            return true;
        }

        private boolean readNumber(int mostDigits) {
            int digits = 0;
            int number = 0;
            while (digits < mostDigits && peek() >= '0' && peek() <= '9') {
                number = number * 10 + peek() - '0';
                digits++;
                at++;
            }
            if (digits == 0) {
                return false;
            }
            addNumber(number);
            return true;
        }

        private void addNumber(int number) {
            if (numberCount < MAX_NUMBERS) {
                numbers[count][numberCount] = number;
                numberCount++;
            }
        }
    }

    /** The output, with room for more than the longest that is written. */
    private static final class Output {
        private static final int GREATEST_UNIT = 1000000000;

        final char[] signs = new char[MAX_OUTPUT];
        int length;

        void clear() {
            length = 0;
        }

        void put(char sign) {
            if (length < MAX_OUTPUT) {
                signs[length] = sign;
                length++;
            }
        }

        void startItem(int place) {
            if (place > 0) {
                put(' ');
            }
        }

        void putNumber(int number) {
            boolean started = false;
            for (int unit = GREATEST_UNIT; unit > 0; unit /= 10) {
                int digit = number / unit % 10;
                started = started || digit > 0 || unit == 1;
                if (started) {
                    put((char) ('0' + digit));
                }
            }
        }
    }
}

import java.util.NoSuchElementException;

/** What the tests share: comparing answers, expecting exceptions, and looking at a whole vault. */
final class Check {
    interface Call {
        Object answer();
    }

    static final Class<?> INDEX = IndexOutOfBoundsException.class;
    static final Class<?> ARGUMENT = IllegalArgumentException.class;
    static final Class<?> REFUSED = UnsupportedOperationException.class;
    static final Class<?> NO_ELEMENT = NoSuchElementException.class;
    static final Class<?> ILLEGAL_STATE = IllegalStateException.class;
    static final Class<?> ARITHMETIC = ArithmeticException.class;

    private static int wrong = 0;
    private static int checked = 0;

    private Check() {
    }

    static void due(String what, Object got, Object want) {
        checked++;
        if (!want.equals(got)) {
            wrong++;
            System.out.println(what + ": answered " + got + ", due is " + want);
        }
    }

    /** The call must throw exactly this class, and leave all that a vault answers as it was. */
    static void throwsOnly(String what, ShareVault vault, Class<?> want, Call call) {
        String before = stateOf(vault);
        due(what, outcomeOf(call), want.getSimpleName());
        due(what + " leaves the state", stateOf(vault), before);
    }

    static void refused(String what, ShareVault vault, int reason, int detail, Call call) {
        throwsOnly(what, vault, REFUSED, call);
        due(what + " reason", vault.refusalReason(), reason);
        due(what + " detail", vault.refusalDetail(), detail);
        due(what + " cause", outcomeOf(vault::refusalCause), "NoSuchElementException");
    }

    static String outcomeOf(Call call) {
        try {
            return String.valueOf(call.answer());
        } catch (RuntimeException thrown) {
            return thrown.getClass().getSimpleName();
        }
    }

    static void feedAll(ShareVault vault, String text) {
        for (char sign : text.toCharArray()) {
            vault.feed(sign);
        }
    }

    static int run(ShareVault vault, String text) {
        feedAll(vault, text);
        return vault.runCommands();
    }

    static String outputOf(ShareVault vault, int length) {
        StringBuilder text = new StringBuilder();
        for (int index = 0; index < length; index++) {
            text.append(vault.outputChar(index));
        }
        return text.toString();
    }

    static String zonesOf(ShareVault vault) {
        return outputOf(vault, vault.writeZones());
    }

    static String logOf(ShareVault vault) {
        return outputOf(vault, vault.writeLog());
    }

    /** All that can be undone and saved, and how much can be undone, without touching the output. */
    static String stateOf(ShareVault vault) {
        return savedPartOf(vault) + " undo " + vault.undoCount();
    }

    static String savedPartOf(ShareVault looked) {
        ShareVault vault = Copy.of(looked);
        StringBuilder text = new StringBuilder();
        add(text, vault.hour(), vault.isSealed(), vault.isOpen(), vault.lockedHours(), vault.failedAttempts());
        add(text, vault.openingCount(), vault.alarmCount(), outcomeOf(vault::threshold), vault.meanNoise());
        for (int holder = 0; holder < vault.holderCount(); holder++) {
            int index = holder;
            add(text, "H", outcomeOf(() -> vault.share(index)), outcomeOf(() -> vault.isCorrect(index)));
            add(text, vault.isPresented(holder));
        }
        for (int place = 0; place < vault.presentedCount(); place++) {
            add(text, "P", vault.presentedAt(place));
        }
        for (int guard = 0; guard < vault.guardCount(); guard++) {
            add(text, "G", vault.zoneOf(guard), vault.isForwards(guard));
        }
        for (int zone = 0; zone < 8; zone++) {
            int index = zone;
            add(text, "Z", vault.noise(zone), vault.alarmsOf(zone), vault.isGuarded(zone));
            add(text, outcomeOf(() -> vault.hoursUntilVisit(index)), outcomeOf(() -> vault.alarmShare(index)));
        }
        for (int place = 0; place < vault.logCount(); place++) {
            add(text, "L", vault.logHour(place), vault.logKind(place), vault.logDetail(place));
        }
        for (int position = 0; position < 97; position += 32) {
            int index = position;
            add(text, outcomeOf(() -> vault.toldValue(index)));
        }
        return text.toString();
    }

    private static void add(StringBuilder text, Object... answers) {
        for (Object answer : answers) {
            text.append(answer).append(' ');
        }
    }

    static void end() {
        System.out.println(checked + " answers checked, " + wrong + " wrong");
        if (wrong != 0 || checked == 0) {
            System.exit(1);
        }
    }
}

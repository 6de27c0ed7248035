/** The edges of what is kept: the log, the output, the calls that can be undone, and the saved state. */
public final class KeptTest {
    private KeptTest() {
    }

    public static void main(String[] args) {
        newObject();
        emptyLog();
        twelveEntriesAndAThirteenth();
        fullLogAtOnce();
        eachKindAsTheThirteenth();
        leastAndGreatestDetails();
        emptyOutput();
        outputIsReplaced();
        longestOutputs();
        noCallToUndo();
        eighthAndNinthCall();
        callsThatThrowAreNotRecorded();
        callsThatAreRecorded();
        callsThatAreNotRecorded();
        callsWithoutAChange();
        undoneAndGoneOn();
        undoneIsWhole();
        noSavedState();
        savedStateIsWhole();
        savedTwice();
        restoredAndUndone();
        savedOfANewObject();
        Check.end();
    }

    private static void newObject() {
        ShareVault vault = new ShareVault();
        Check.due("1 state", Check.stateOf(vault), Check.stateOf(new ShareVault()));
        Check.due("13 to 15", vault.hour() + " " + vault.holderCount() + " " + vault.isSealed(), "0 0 false");
        Check.due("20", vault.presentedCount(), 0);
        Check.due("28 to 31", vault.isOpen() + " " + vault.lockedHours() + " " + vault.failedAttempts() + " "
            + vault.guardCount(), "false 0 0 0");
        Check.due("41 to 43", vault.alarmCount() + " " + vault.openingCount() + " " + vault.logCount(), "0 0 0");
        Check.due("47", vault.meanNoise(), 0.0);
        Check.due("49", vault.isConsistent(), true);
        Check.due("59", vault.undoCount(), 0);
        Check.due("16", Check.outcomeOf(vault::threshold), "NoSuchElementException");
        Check.due("50", Check.outcomeOf(vault::refusalReason), "NoSuchElementException");
        Check.due("55", Check.outcomeOf(vault::errorPosition), "NoSuchElementException");
        Check.due("58", Check.outcomeOf(() -> vault.outputChar(0)), "IndexOutOfBoundsException");
        Check.due("60", Check.outcomeOf(vault::undo), "IllegalStateException");
        Check.due("62", Check.outcomeOf(vault::restore), "IllegalStateException");
        Check.due("53", vault.feed('w'), 1);
    }

    private static String entriesFrom(int first, int last) {
        StringBuilder text = new StringBuilder();
        for (int entry = first; entry <= last; entry++) {
            text.append(entry == first ? "" : " ").append(entry + 1).append('a').append(entry % 8);
        }
        return text.toString();
    }

    private static void emptyLog() {
        ShareVault vault = new ShareVault();
        Check.due("43 empty", vault.logCount(), 0);
        Check.due("57 empty", vault.writeLog(), 0);
        Twin.throwsOnly("44 empty", Check.NO_ELEMENT, ShareVault::new, other -> other.logHour(0));
        Twin.throwsOnly("45 empty", Check.NO_ELEMENT, ShareVault::new, other -> other.logKind(0));
        Twin.throwsOnly("46 empty", Check.NO_ELEMENT, ShareVault::new, other -> other.logDetail(0));
    }

    private static void twelveEntriesAndAThirteenth() {
        for (int count = 1; count <= 26; count++) {
            ShareVault vault = Vaults.withEntries(count);
            int oldest = Math.max(0, count - 12);
            Check.due("43 of " + count, vault.logCount(), count - oldest);
            Check.due("57 of " + count, Check.logOf(vault), entriesFrom(oldest, count - 1));
            for (int place = 0; place < count - oldest; place++) {
                Check.due("44 of " + count, vault.logHour(place), oldest + place + 1);
                Check.due("45 of " + count, vault.logKind(place), 'a');
                Check.due("46 of " + count, vault.logDetail(place), (oldest + place) % 8);
            }
            Check.throwsOnly("44 of " + count, vault, Check.NO_ELEMENT, () -> vault.logHour(vault.logCount()));
            Check.throwsOnly("45 of " + count, vault, Check.NO_ELEMENT, () -> vault.logKind(vault.logCount()));
            Check.throwsOnly("46 of " + count, vault, Check.NO_ELEMENT, () -> vault.logDetail(vault.logCount()));
            Check.due("41 counts on", vault.alarmCount(), count);
        }
    }

    private static void fullLogAtOnce() {
        for (int before = 4; before <= 12; before += 4) {
            ShareVault vault = Vaults.withEntries(before);
            for (int zone = 0; zone < 8; zone++) {
                vault.hum(zone, 9);
            }
            Check.due("12 eight alarms", vault.passHours(1), 8);
            String kept = entriesFrom(Math.max(0, before - 4), before - 1);
            String hour = String.valueOf(before + 1);
            Check.due("57 eight alarms after " + before, Check.logOf(vault), kept + " H0 H1 H2 H3 H4 H5 H6 H7"
                .replace("H", hour + "a"));
        }
    }

    private static void eachKindAsTheThirteenth() {
        Vaults.Step fail = vault -> {
            vault.setShare(0, 0);
            return vault.openVault();
        };
        thirteenth("13f1", fail);
        thirteenth("13o1", ShareVault::openVault);
        ShareVault vault = thirteenth("13o1", ShareVault::openVault);
        vault.closeVault();
        Check.due("57 fourteenth", Check.logOf(vault), entriesFrom(2, 11) + " 13o1 13c0");
        vault.undo();
        vault.undo();
        Check.due("57 twelve again", Check.logOf(vault), entriesFrom(0, 11));
    }

    /** In the hour 13, with a full log, a sealed vault, a presented key, and a guard. */
    private static ShareVault thirteenth(String entry, Vaults.Step step) {
        ShareVault vault = Vaults.withEntries(12);
        vault.passHours(1);
        vault.addHolder();
        vault.seal(42, 5, 7, 1);
        vault.present(0);
        vault.addGuard(0, true, 4);
        Check.due("57 twelve", Check.logOf(vault), entriesFrom(0, 11));
        step.take(vault);
        Check.due("57 thirteenth", Check.logOf(vault), entriesFrom(1, 11) + " " + entry);
        Check.due("43 thirteenth", vault.logCount(), 12);
        Check.due("45 thirteenth", vault.logKind(11), entry.charAt(2));
        return vault;
    }

    private static void leastAndGreatestDetails() {
        ShareVault all = Vaults.opened(8, 3, 8);
        all.closeVault();
        all.present(0);
        all.present(1);
        all.present(2);
        all.setShare(2, 0);
        all.openVault();
        all.hum(0, 9);
        all.passHours(24);
        Check.due("57 details", Check.logOf(all), "0o8 0c0 0f3");
        all.hum((all.zoneOf(0) + 4) % 8, 9);
        all.passHours(1);
        Check.due("46 zone", all.logDetail(3), (all.zoneOf(0) + 4) % 8);
        ShareVault one = Vaults.opened(8, 1, 1);
        Check.due("46 least of an opening", one.logDetail(0), 1);
        Check.due("46 greatest of a failure", failureOfEight().logDetail(0), 8);
    }

    private static ShareVault failureOfEight() {
        ShareVault vault = Vaults.guarded(8, 1, 8);
        vault.setShare(7, 0);
        vault.openVault();
        return vault;
    }

    private static void emptyOutput() {
        ShareVault vault = new ShareVault();
        for (int index : new int[] {-1, 0, 1, Integer.MIN_VALUE, Integer.MAX_VALUE}) {
            Check.throwsOnly("58 empty", vault, Check.INDEX, () -> vault.outputChar(index));
        }
        vault.writeZones();
        Check.due("57 nothing", vault.writeLog(), 0);
        for (int index : new int[] {-1, 0, 14, Integer.MIN_VALUE, Integer.MAX_VALUE}) {
            Check.throwsOnly("58 empty again", vault, Check.INDEX, () -> vault.outputChar(index));
        }
    }

    private static void outputIsReplaced() {
        ShareVault vault = Vaults.withEntries(12);
        int log = vault.writeLog();
        Check.due("57 length", log, entriesFrom(0, 11).length());
        Check.due("56 shorter", vault.writeZones(), 15);
        Check.due("58 last", vault.outputChar(14), '0');
        Check.throwsOnly("58 behind", vault, Check.INDEX, () -> vault.outputChar(15));
        vault.hum(0, 9);
        vault.addGuard(7, true, 1);
        vault.save();
        vault.undo();
        vault.restore();
        Check.due("58 neither undone nor restored", Check.outputOf(vault, 15), "0 0 0 0 0 0 0 0");
        Check.due("56 again", vault.writeZones(), 16);
        Check.due("58 again", Check.outputOf(vault, 16), "9 0 0 0 0 0 0 0>");
        Check.due("56 twice", vault.writeZones(), 16);
        Check.due("57 again", vault.writeLog(), log);
        Check.due("58 log", Check.outputOf(vault, log), entriesFrom(0, 11));
    }

    private static void longestOutputs() {
        ShareVault zones = new ShareVault();
        for (int zone = 0; zone < 8; zone++) {
            Check.run(zones, "hum Z 9;hum Z 9;hum Z 9".replace('Z', (char) ('0' + zone)));
        }
        zones.addGuard(7, false, 4);
        zones.addGuard(0, true, 4);
        zones.addGuard(7, true, 4);
        Check.due("56 longest", zones.writeZones(), 26);
        Check.due("56 longest", Check.outputOf(zones, 26), "20> 20 20 20 20 20 20 20<>");
        ShareVault hours = new ShareVault();
        for (int call = 0; call < 420; call++) {
            hours.passHours(24);
        }
        alarmsIn(hours, 8);
        alarmsIn(hours, 4);
        Check.due("57 longest", hours.writeLog(), 12 * 7 + 11);
        Check.due("57 longest", Check.outputOf(hours, 15), "10081a0 10081a1");
        Check.due("57 longest", hours.outputChar(94), '3');
    }

    private static void alarmsIn(ShareVault vault, int zones) {
        for (int zone = 0; zone < zones; zone++) {
            vault.hum(zone, 5);
        }
        Check.due("12 alarms", vault.passHours(1), zones);
    }

    private static void noCallToUndo() {
        ShareVault vault = new ShareVault();
        Check.throwsOnly("60 none", vault, Check.ILLEGAL_STATE, vault::undo);
        vault.hum(0, 1);
        Check.due("59 one", vault.undoCount(), 1);
        Check.due("60 one", vault.undo(), 0);
        Check.due("60 one is undone", vault.noise(0), 0);
        Check.throwsOnly("60 none again", vault, Check.ILLEGAL_STATE, vault::undo);
        Check.due("59 none", vault.undoCount(), 0);
    }

    private static void eighthAndNinthCall() {
        for (int calls = 1; calls <= 20; calls++) {
            ShareVault vault = new ShareVault();
            for (int call = 0; call < calls; call++) {
                vault.passHours(1);
            }
            int most = Math.min(calls, 8);
            Check.due("59 after " + calls, vault.undoCount(), most);
            for (int left = most - 1; left >= 0; left--) {
                Check.due("60 after " + calls, vault.undo(), left);
                Check.due("60 hour after " + calls, vault.hour(), calls - most + left);
                Check.due("59 left after " + calls, vault.undoCount(), left);
            }
            Check.throwsOnly("60 ninth after " + calls, vault, Check.ILLEGAL_STATE, vault::undo);
        }
    }

    /** Not even the oldest of eight states is lost by them. */
    private static void callsThatThrowAreNotRecorded() {
        Vaults.Step[] steps = {vault -> vault.seal(1, 1, 1, 3), vault -> vault.seal(97, 1, 1, 1),
            vault -> vault.setShare(1, 1), vault -> vault.setShare(0, 97), vault -> vault.present(0),
            vault -> vault.present(1), vault -> vault.takeBack(1), ShareVault::openVault, ShareVault::closeVault,
            vault -> vault.addGuard(8, true, 1), vault -> vault.turnGuard(0), vault -> vault.hum(8, 1),
            vault -> vault.passHours(25), vault -> Check.run(vault, "holder;wait;open"),
            vault -> Check.run(vault, "holder;wait;"), ShareVault::restore};
        for (int index = 0; index < steps.length; index++) {
            ShareVault vault = Vaults.sealed(1, 1, 1);
            String[] states = new String[8];
            for (int call = 0; call < 8; call++) {
                states[call] = Check.savedPartOf(vault);
                vault.hum(call, 1);
            }
            Vaults.Step step = steps[index];
            String outcome = Check.outcomeOf(() -> step.take(vault));
            Check.due("60 step " + index + " throws", outcome.endsWith("Exception"), true);
            for (int call = 7; call >= 0; call--) {
                Check.due("60 after step " + index, vault.undo(), call);
                Check.due("60 after step " + index, Check.savedPartOf(vault), states[call]);
            }
        }
        ShareVault full = Vaults.withHolders(8);
        Check.outcomeOf(full::addHolder);
        for (int holders = 7; holders >= 0; holders--) {
            full.undo();
            Check.due("60 after a ninth holder", full.holderCount(), holders);
        }
    }

    private static void recorded(String what, Vaults.Maker maker, Vaults.Step step) {
        ShareVault vault = maker.make();
        int calls = vault.undoCount();
        String before = Check.savedPartOf(vault);
        String outcome = Check.outcomeOf(() -> step.take(vault));
        Check.due(what + " returns", outcome.endsWith("Exception"), false);
        Check.due("59 " + what, vault.undoCount(), Math.min(calls + 1, 8));
        Check.due("60 " + what, vault.undo(), Math.min(calls, 7));
        Check.due("60 " + what, Check.savedPartOf(vault), before);
        for (int more = calls; more < 10; more++) {
            vault.hum(1, 1);
        }
        Check.due("59 " + what + " full", vault.undoCount(), 8);
    }

    private static void callsThatAreRecorded() {
        recorded("addHolder", () -> Vaults.withHolders(1), ShareVault::addHolder);
        recorded("addHolder, sealed", () -> Vaults.sealed(7, 3, 5), ShareVault::addHolder);
        recorded("seal", () -> Vaults.withHolders(1), vault -> vault.seal(1, 2, 3, 1));
        recorded("seal anew", () -> Vaults.opened(3, 3, 3), vault -> vault.seal(1, 2, 3, 1));
        recorded("seal, locked", Vaults::locked, vault -> vault.seal(1, 2, 3, 1));
        recorded("setShare", () -> Vaults.sealed(3, 2, 3), vault -> vault.setShare(1, 96));
        recorded("present", () -> Vaults.sealed(3, 2, 2), vault -> vault.present(2));
        recorded("takeBack", () -> Vaults.sealed(3, 2, 3), vault -> vault.takeBack(0));
        recorded("openVault", () -> Vaults.guarded(3, 2, 3), ShareVault::openVault);
        recorded("openVault, second failure", () -> Vaults.failed(1), ShareVault::openVault);
        recorded("openVault, third failure", () -> Vaults.failed(2), ShareVault::openVault);
        recorded("closeVault", () -> Vaults.opened(3, 2, 3), ShareVault::closeVault);
        recorded("addGuard", () -> Vaults.withGuards(7, 0), vault -> vault.addGuard(7, false, 1));
        recorded("turnGuard", () -> Vaults.withGuards(7, 0), vault -> vault.turnGuard(1));
        recorded("hum", () -> Vaults.withEntries(1), vault -> vault.hum(7, 9));
        recorded("passHours", () -> Vaults.withEntries(12), vault -> vault.passHours(24));
        recorded("passHours, locked", Vaults::locked, vault -> vault.passHours(6));
        recorded("runCommands", Vaults::locked, vault -> Check.run(vault, "holder;seal 1 2 3 2;wait 24;hum 7 9;wait"));
    }

    private static void callsWithoutAChange() {
        recorded("setShare to the same", () -> Vaults.sealed(3, 2, 3), vault -> vault.setShare(1, vault.share(1)));
        recorded("seal to the same", () -> Vaults.sealed(3, 2, 0), vault -> vault.seal(42, 5, 7, 2));
        recorded("hum above 20", KeptTest::full, vault -> vault.hum(7, 9));
        recorded("runCommands above 20", KeptTest::full, vault -> Check.run(vault, "hum 7 1"));
        recorded("runCommands and back", () -> Vaults.sealed(1, 1, 0), vault -> Check.run(vault, "give 0;back 0"));
    }

    private static ShareVault full() {
        ShareVault vault = new ShareVault();
        vault.hum(7, 9);
        vault.hum(7, 9);
        vault.hum(7, 2);
        return vault;
    }

    private static void callsThatAreNotRecorded() {
        Vaults.Step[] steps = {ShareVault::hour, ShareVault::threshold, vault -> vault.share(0),
            vault -> vault.isCorrect(0), vault -> vault.presentedAt(0), ShareVault::toldSecret,
            ShareVault::toldSecretByElimination, vault -> vault.toldValue(9), ShareVault::doAgree,
            ShareVault::mostAgreeing, ShareVault::mostAgreeingBySets, vault -> vault.hoursUntilVisit(7),
            vault -> vault.hoursUntilVisitByRemainders(7), vault -> vault.alarmsIn(24), vault -> vault.zoneByNoise(7),
            vault -> vault.alarmShare(5), ShareVault::isConsistent, vault -> vault.feed('x'), ShareVault::writeZones,
            ShareVault::writeLog, ShareVault::undoCount, ShareVault::save};
        for (int index = 0; index < steps.length; index++) {
            ShareVault vault = Vaults.opened(3, 2, 3);
            vault.hum(5, 9);
            vault.passHours(1);
            String before = Check.stateOf(vault);
            Vaults.Step step = steps[index];
            String outcome = Check.outcomeOf(() -> step.take(vault));
            Check.due("59 step " + index + " returns", outcome.endsWith("Exception"), false);
            Check.due("59 step " + index + " is not recorded", Check.stateOf(vault), before);
            vault.undo();
            Check.due("60 step " + index + " is not undone", vault.hour(), 0);
        }
    }

    private static void undoneAndGoneOn() {
        ShareVault vault = new ShareVault();
        for (int round = 0; round < 30; round++) {
            int calls = vault.undoCount();
            vault.passHours(1);
            vault.passHours(2);
            vault.passHours(3);
            vault.undo();
            vault.undo();
            Check.due("59 round " + round, vault.undoCount(), Math.min(calls + 3, 8) - 2);
            Check.due("13 round " + round, vault.hour(), round + 1);
        }
        for (int left = vault.undoCount() - 1; left >= 0; left--) {
            vault.undo();
        }
        // Six calls could be undone, each the first of its round, with one hour.
        Check.due("60 all undone", vault.hour(), 24);
    }

    /** Eight calls that change something in each part of the state, undone one by one. */
    private static void undoneIsWhole() {
        ShareVault vault = Vaults.guarded(3, 2, 3);
        Vaults.Step[] steps = {ShareVault::openVault, other -> other.hum(5, 9), other -> other.passHours(1),
            ShareVault::closeVault, ShareVault::addHolder, other -> other.seal(1, 2, 3, 3),
            other -> Check.run(other, "give 2;give 3;share 0 9"), other -> other.turnGuard(0)};
        String[] states = new String[8];
        for (int index = 0; index < 8; index++) {
            states[index] = Check.savedPartOf(vault);
            steps[index].take(vault);
        }
        for (int index = 7; index >= 0; index--) {
            Check.due("60 left", vault.undo(), index);
            Check.due("60 whole", Check.savedPartOf(vault), states[index]);
        }
    }

    private static void noSavedState() {
        ShareVault vault = Vaults.opened(3, 2, 3);
        Check.throwsOnly("62 none", vault, Check.ILLEGAL_STATE, vault::restore);
        vault.undo();
        Check.throwsOnly("62 undoing saves nothing", vault, Check.ILLEGAL_STATE, vault::restore);
        new ShareVault().save();
        Check.throwsOnly("62 another object's", vault, Check.ILLEGAL_STATE, vault::restore);
        vault.save();
        Check.due("62 one", vault.restore(), 3);
        Check.due("62 one again", vault.restore(), 3);
    }

    private static void savedStateIsWhole() {
        Vaults.Maker[] makers = {ShareVault::new, () -> Vaults.opened(3, 2, 3), () -> Vaults.failed(2), Vaults::locked,
            () -> Vaults.withEntries(12), () -> Vaults.withGuards(7, 0, 3), () -> Vaults.sealed(8, 3, 8)};
        for (Vaults.Maker maker : makers) {
            ShareVault vault = maker.make();
            String before = Check.savedPartOf(vault);
            int holders = vault.holderCount();
            Check.due("61 holders", vault.save(), holders);
            Check.due("61 leaves", Check.savedPartOf(vault), before);
            changeAll(vault);
            Check.due("62 holders", vault.restore(), holders);
            Check.due("62 whole", Check.savedPartOf(vault), before);
            Check.due("59 none", vault.undoCount(), 0);
            Check.throwsOnly("60 none", vault, Check.ILLEGAL_STATE, vault::undo);
            changeAll(vault);
            Check.due("62 holders again", vault.restore(), holders);
            Check.due("62 whole again", Check.savedPartOf(vault), before);
            ShareVault other = maker.make();
            Check.due("62 goes on alike", futureOf(vault), futureOf(other));
        }
    }

    /** Changes each part of the state; some of it may be refused. */
    private static void changeAll(ShareVault vault) {
        Vaults.Step[] steps = {ShareVault::closeVault, ShareVault::addHolder, other -> other.addGuard(0, false, 1),
            other -> other.turnGuard(0), other -> other.hum(6, 9), other -> other.passHours(7),
            other -> other.seal(96, 95, 94, 1), other -> other.present(0), other -> other.setShare(0, 33),
            ShareVault::openVault, other -> other.hum(2, 3)};
        for (Vaults.Step step : steps) {
            Check.outcomeOf(() -> step.take(vault));
        }
    }

    private static String futureOf(ShareVault vault) {
        StringBuilder text = new StringBuilder();
        for (int hour = 0; hour < 9; hour++) {
            text.append(Check.outcomeOf(vault::openVault)).append(Check.outcomeOf(vault::addHolder));
            vault.hum(hour % 8, 9);
            vault.passHours(1);
            text.append(Check.savedPartOf(vault)).append('\n');
        }
        return text.toString();
    }

    private static void savedTwice() {
        ShareVault vault = Vaults.withHolders(1);
        Check.due("61 first", vault.save(), 1);
        vault.addHolder();
        vault.passHours(5);
        Check.due("61 second", vault.save(), 2);
        vault.addHolder();
        Check.due("62 the later one", vault.restore(), 2);
        Check.due("62 the later one", vault.hour(), 5);
        ShareVault fewer = Vaults.withHolders(2);
        fewer.save();
        fewer.undo();
        Check.due("61 one that is earlier", fewer.save(), 1);
        Check.due("62 one that is earlier", fewer.restore(), 1);
    }

    private static void restoredAndUndone() {
        ShareVault vault = Vaults.withHolders(8);
        vault.save();
        vault.undo();
        vault.undo();
        Check.due("62 undoing leaves the saved state", vault.restore(), 8);
        Check.due("59 none after restoring", vault.undoCount(), 0);
        vault.passHours(1);
        Check.due("59 one after restoring", vault.undoCount(), 1);
        Check.due("60 one after restoring", vault.undo(), 0);
        Check.due("60 the restored state", vault.holderCount() * 10 + vault.hour(), 80);
        Check.throwsOnly("60 not to before restoring", vault, Check.ILLEGAL_STATE, vault::undo);
        for (int call = 0; call < 9; call++) {
            vault.passHours(1);
        }
        Check.due("59 eight after restoring", vault.undoCount(), 8);
    }

    private static void savedOfANewObject() {
        ShareVault vault = new ShareVault();
        String before = Check.savedPartOf(vault);
        Check.due("61 no holder", vault.save(), 0);
        Check.run(vault, "holder;seal 1 2 3 1;guard 0+1;give 0;open;hum 4 9;wait 9");
        Check.due("62 no holder", vault.restore(), 0);
        Check.due("62 new", Check.savedPartOf(vault), before);
        Check.due("15 not sealed", vault.isSealed(), false);
        Check.refused("7 not sealed", vault, 3, 0, vault::openVault);
    }
}

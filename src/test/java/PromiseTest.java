/** For each promise of the document: ordinary inputs, the edges that it names, and wrong inputs. */
public final class PromiseTest {
    private static final int MIN = Integer.MIN_VALUE;
    private static final int MAX = Integer.MAX_VALUE;

    private PromiseTest() {
    }

    public static void main(String[] args) {
        holdersAndSeal();
        keysAndDoor();
        guardsAndHours();
        looksAtKeys();
        looksAtBuilding();
        sumsAndLog();
        refusalsAndCommands();
        outputUndoAndSave();
        Check.end();
    }

    private static void holdersAndSeal() {
        promise1NewObject();
        promise2AddHolder();
        promise3Seal();
        promise3SealAgain();
        promise4SetShare();
    }

    private static void keysAndDoor() {
        promise5Present();
        promise6TakeBack();
        promise7OpenVault();
        promise7Refusals();
        promise7Lock();
        promise8CloseVault();
    }

    private static void guardsAndHours() {
        promise9AddGuard();
        promise10TurnGuard();
        promise11Hum();
        promise12PassHours();
        promise12Order();
    }

    private static void looksAtKeys() {
        promises13To17();
        promises18To21();
        promises22To24Told();
        promises25To27Agreeing();
        promises28To30Door();
    }

    private static void looksAtBuilding() {
        promises31To35Zones();
        promises36And37Visits();
        promise38AlarmsIn();
        promise39ZoneByNoise();
    }

    private static void sumsAndLog() {
        promises40To42Sums();
        promises43To46Log();
        promises47And48Shares();
        promise49IsConsistent();
    }

    private static void refusalsAndCommands() {
        promises50To52Refusals();
        promise53Feed();
        promise54RunCommands();
        promise54EachCommand();
        promise54Causes();
        promise55ErrorPosition();
    }

    private static void outputUndoAndSave() {
        promise56WriteZones();
        promise57WriteLog();
        promise58OutputChar();
        promises59And60Undo();
        promise60EachCall();
        promises60And62FullLog();
        promises61And62Save();
    }

    private static void promise1NewObject() {
        ShareVault vault = new ShareVault();
        Check.due("1 holders", vault.holderCount(), 0);
        Check.due("1 guards", vault.guardCount(), 0);
        Check.due("1 sealed", vault.isSealed(), false);
        Check.due("1 hour", vault.hour(), 0);
        Check.due("1 open", vault.isOpen(), false);
        Check.due("1 undo", vault.undoCount(), 0);
        Check.due("1 zones", Check.zonesOf(vault), "0 0 0 0 0 0 0 0");
    }

    private static void promise2AddHolder() {
        ShareVault vault = new ShareVault();
        for (int holder = 0; holder < 8; holder++) {
            Check.due("2 index", vault.addHolder(), holder);
        }
        Check.refused("2 ninth", vault, 1, 8, vault::addHolder);
        ShareVault late = Vaults.sealed(3, 3, 2);
        Check.due("2 late", late.addHolder(), 3);
        Check.due("2 share of late", late.share(3), 77);
        Check.due("2 late is correct", late.isCorrect(3), true);
        Check.due("2 late not presented", late.isPresented(3), false);
        Check.due("2 presented stay", late.presentedCount(), 2);
        ShareVault second = Vaults.sealed(2, 2, 0);
        second.addHolder();
        Check.due("2 late on a line", second.share(2), 57);
    }

    private static void promise3Seal() {
        int[][] shares = {{42, 42, 42, 42}, {47, 52, 57, 62}, {54, 80, 23, 77}};
        for (int threshold = 1; threshold <= 3; threshold++) {
            ShareVault vault = Vaults.withHolders(4);
            Check.due("3 holders", vault.seal(42, 5, 7, threshold), 4);
            Check.due("3 threshold", vault.threshold(), threshold);
            for (int holder = 0; holder < 4; holder++) {
                Check.due("3 share", vault.share(holder), shares[threshold - 1][holder]);
            }
        }
        ShareVault vault = Vaults.withHolders(8);
        Check.due("3 greatest", vault.seal(96, 96, 96, 3), 8);
        Check.due("3 greatest share", vault.share(7), (96 + 96 * 8 + 96 * 64) % 97);
        Check.due("3 least", vault.seal(0, 0, 0, 1), 8);
        int[][] wrong = {{-1, 0, 0, 1}, {97, 0, 0, 1}, {0, -1, 0, 1}, {0, 97, 0, 1}, {0, 0, -1, 1}, {0, 0, 97, 1},
            {0, 0, 0, 0}, {0, 0, 0, 4}, {MIN, 0, 0, 1}, {0, MAX, 0, 1}, {0, 0, MIN, 1}, {0, 0, 0, MAX},
            {0, 0, 0, MIN}};
        for (int[] numbers : wrong) {
            Check.throwsOnly("3 range", vault, Check.ARGUMENT,
                () -> vault.seal(numbers[0], numbers[1], numbers[2], numbers[3]));
        }
        for (int holders = 0; holders < 3; holders++) {
            ShareVault few = Vaults.withHolders(holders);
            Check.refused("3 few", few, 2, holders, () -> few.seal(1, 2, 3, 3));
            Check.throwsOnly("3 range first", few, Check.ARGUMENT, () -> few.seal(97, 2, 3, 3));
            Check.due("3 range is no refusal", few.refusalReason(), 2);
        }
        Check.due("3 enough", Vaults.withHolders(2).seal(1, 2, 3, 2), 2);
    }

    private static void promise3SealAgain() {
        ShareVault vault = Vaults.opened(3, 2, 2);
        vault.seal(9, 1, 1, 1);
        Check.due("3 closes", vault.isOpen(), false);
        Check.due("3 takes keys", vault.presentedCount(), 0);
        Check.due("3 new threshold", vault.threshold(), 1);
        Check.due("3 new share", vault.share(2), 9);
        Check.due("3 logs nothing", Check.logOf(vault), "0o2");
        Check.due("3 keeps openings", vault.openingCount(), 1);
        ShareVault locked = Vaults.locked();
        locked.seal(1, 2, 3, 1);
        Check.due("3 unlocks", locked.lockedHours(), 0);
        ShareVault failed = Vaults.guarded(1, 1, 1);
        failed.setShare(0, 1);
        failed.openVault();
        failed.openVault();
        failed.seal(1, 2, 3, 1);
        Check.due("3 forgets failures", failed.failedAttempts(), 0);
    }

    private static void promise4SetShare() {
        ShareVault vault = Vaults.sealed(3, 3, 3);
        Check.due("4 previous", vault.setShare(1, 96), 80);
        Check.due("4 again", vault.setShare(1, 0), 96);
        Check.due("4 share", vault.share(1), 0);
        Check.due("4 wrong", vault.isCorrect(1), false);
        Check.due("4 back", vault.setShare(1, 80), 0);
        Check.due("4 right", vault.isCorrect(1), true);
        Check.due("4 told", vault.toldSecret(), 42);
        vault.setShare(1, 50);
        Check.due("4 presented key changes", vault.toldSecret(), 35);
        for (int holder : new int[] {-1, 3, 8, MIN, MAX}) {
            Check.throwsOnly("4 holder", vault, Check.INDEX, () -> vault.setShare(holder, 97));
        }
        for (int share : new int[] {-1, 97, MIN, MAX}) {
            Check.throwsOnly("4 share", vault, Check.ARGUMENT, () -> vault.setShare(0, share));
        }
        ShareVault open = Vaults.withHolders(1);
        Check.throwsOnly("4 share first", open, Check.ARGUMENT, () -> open.setShare(0, 97));
        Check.refused("4 not sealed", open, 3, 0, () -> open.setShare(0, 1));
    }

    private static void promise5Present() {
        ShareVault vault = Vaults.sealed(8, 2, 0);
        for (int holder = 7; holder >= 0; holder--) {
            Check.due("5 count", vault.present(holder), 8 - holder);
        }
        Check.refused("5 twice", vault, 4, 0, () -> vault.present(7));
        Check.refused("5 twice", vault, 4, 7, () -> vault.present(0));
        for (int holder : new int[] {-1, 8, MIN, MAX}) {
            Check.throwsOnly("5 holder", vault, Check.INDEX, () -> vault.present(holder));
        }
        ShareVault unsealed = Vaults.withHolders(1);
        Check.refused("5 not sealed", unsealed, 3, 0, () -> unsealed.present(0));
        Check.throwsOnly("5 holder first", unsealed, Check.INDEX, () -> unsealed.present(1));
        Check.due("5 while open", Vaults.opened(3, 1, 1).present(2), 2);
        ShareVault locked = Vaults.locked();
        locked.addHolder();
        Check.due("5 while locked", locked.present(1), 2);
    }

    private static void promise6TakeBack() {
        ShareVault vault = Vaults.sealed(4, 2, 4);
        Check.due("6 count", vault.takeBack(1), 3);
        Check.due("6 order", vault.presentedAt(0) * 100 + vault.presentedAt(1) * 10 + vault.presentedAt(2), 23);
        Check.refused("6 twice", vault, 5, 1, () -> vault.takeBack(1));
        Check.due("6 again", vault.present(1), 4);
        Check.due("6 at the end", vault.presentedAt(3), 1);
        Check.due("6 last", vault.takeBack(1), 3);
        Check.due("6 first", vault.takeBack(0), 2);
        for (int holder : new int[] {-1, 4, MIN, MAX}) {
            Check.throwsOnly("6 holder", vault, Check.INDEX, () -> vault.takeBack(holder));
        }
        ShareVault unsealed = Vaults.withHolders(1);
        Check.refused("6 not sealed", unsealed, 3, 0, () -> unsealed.takeBack(0));
        Check.throwsOnly("6 holder first", unsealed, Check.INDEX, () -> unsealed.takeBack(1));
        ShareVault all = Vaults.sealed(8, 1, 8);
        Check.due("6 last of eight", all.takeBack(7), 7);
        all.present(7);
        Check.due("6 first of eight", all.takeBack(0), 7);
        Check.due("6 moves up", all.presentedAt(0) * 10 + all.presentedAt(6), 17);
        ShareVault open = Vaults.opened(3, 1, 1);
        Check.due("6 while open", open.takeBack(0), 0);
        Check.due("6 stays open", open.isOpen(), true);
    }

    private static void promise7OpenVault() {
        for (int threshold = 1; threshold <= 3; threshold++) {
            for (int presented = threshold; presented <= 8; presented++) {
                ShareVault vault = Vaults.guarded(8, threshold, presented);
                Check.due("7 opens", vault.openVault(), true);
                Check.due("7 open", vault.isOpen(), true);
                Check.due("7 log", Check.logOf(vault), "0o" + presented);
            }
        }
        ShareVault disagreeing = Vaults.guarded(4, 2, 3);
        disagreeing.setShare(2, 0);
        Check.due("7 one share off", disagreeing.openVault(), false);
        Check.due("7 log", Check.logOf(disagreeing), "0f3");
        Check.due("7 counted", disagreeing.failedAttempts(), 1);
        Check.due("7 closed", disagreeing.isOpen(), false);
        ShareVault other = Vaults.guarded(3, 2, 2);
        // The line 1 + x tells another secret, though its shares agree.
        other.setShare(0, 2);
        other.setShare(1, 3);
        Check.due("7 other secret", other.openVault(), false);
        ShareVault same = Vaults.guarded(3, 2, 2);
        // The line 42 + 6x tells the secret, though no share is correct.
        same.setShare(0, 48);
        same.setShare(1, 54);
        Check.due("7 other line", same.openVault(), true);
        Check.due("7 keys stay", same.presentedCount(), 2);
    }

    private static void promise7Refusals() {
        ShareVault unsealed = Vaults.withHolders(3);
        Check.refused("7 not sealed", unsealed, 3, 0, unsealed::openVault);
        ShareVault open = Vaults.opened(3, 1, 2);
        open.takeBack(0);
        open.takeBack(1);
        Check.refused("7 open", open, 6, 0, open::openVault);
        open.present(2);
        Check.refused("7 open", open, 6, 1, open::openVault);
        ShareVault locked = Vaults.locked();
        Check.refused("7 locked", locked, 7, 6, locked::openVault);
        locked.takeBack(0);
        locked.passHours(5);
        Check.refused("7 locked before few keys and guards", locked, 7, 1, locked::openVault);
        locked.passHours(1);
        Check.refused("7 few keys before guards", locked, 8, 1, locked::openVault);
        ShareVault few = Vaults.sealed(3, 3, 0);
        Check.refused("7 few keys", few, 8, 3, few::openVault);
        few.present(2);
        Check.refused("7 few keys", few, 8, 2, few::openVault);
        few.present(1);
        few.present(0);
        Check.refused("7 no guards", few, 9, 0, few::openVault);
        few.addGuard(1, true, 1);
        few.addGuard(7, true, 1);
        Check.refused("7 no guard in the zone 0", few, 9, 2, few::openVault);
        few.passHours(1);
        Check.due("7 guard arrives", few.openVault(), true);
    }

    private static void promise7Lock() {
        ShareVault vault = Vaults.guarded(2, 1, 1);
        vault.setShare(0, 0);
        vault.openVault();
        vault.openVault();
        Check.due("7 two", vault.failedAttempts(), 2);
        Check.due("7 not locked", vault.lockedHours(), 0);
        vault.setShare(0, 42);
        vault.openVault();
        Check.due("7 opening forgets", vault.failedAttempts(), 0);
        vault.closeVault();
        vault.present(0);
        vault.setShare(0, 1);
        vault.openVault();
        vault.openVault();
        Check.due("7 third", vault.openVault(), false);
        Check.due("7 locked", vault.lockedHours(), 6);
        Check.due("7 counted anew", vault.failedAttempts(), 0);
        vault.passHours(2);
        Check.due("7 four left", vault.lockedHours(), 4);
        vault.passHours(24);
        Check.due("7 unlocked", vault.lockedHours(), 0);
        while (vault.zoneOf(0) != 0) {
            vault.passHours(1);
        }
        vault.openVault();
        Check.due("7 first after lock", vault.failedAttempts(), 1);
        Check.due("7 not locked at once", vault.lockedHours(), 0);
    }

    private static void promise8CloseVault() {
        ShareVault vault = Vaults.opened(3, 2, 3);
        vault.passHours(3);
        Check.due("8 keys", vault.closeVault(), 3);
        Check.due("8 closed", vault.isOpen(), false);
        Check.due("8 taken back", vault.presentedCount(), 0);
        Check.due("8 log", Check.logOf(vault), "0o3 3c0");
        Check.refused("8 closed", vault, 10, 0, vault::closeVault);
        ShareVault failed = Vaults.guarded(1, 1, 1);
        failed.setShare(0, 1);
        failed.openVault();
        failed.openVault();
        Check.refused("8 after failures", failed, 10, 2, failed::closeVault);
        ShareVault unsealed = new ShareVault();
        Check.refused("8 not sealed", unsealed, 3, 0, unsealed::closeVault);
    }

    private static void promise9AddGuard() {
        ShareVault vault = new ShareVault();
        for (int period : new int[] {0, 5, MIN, MAX}) {
            Check.throwsOnly("9 period", vault, Check.ARGUMENT, () -> vault.addGuard(0, true, period));
        }
        for (int zone : new int[] {-1, 8, MIN, MAX}) {
            Check.throwsOnly("9 zone", vault, Check.ARGUMENT, () -> vault.addGuard(zone, true, 1));
        }
        Check.due("9 first", vault.addGuard(0, true, 1), 0);
        Check.due("9 second", vault.addGuard(7, false, 4), 1);
        Check.due("9 third", vault.addGuard(7, true, 3), 2);
        Check.due("9 zones", Check.zonesOf(vault), "0> 0 0 0 0 0 0 0<>");
        Check.refused("9 fourth", vault, 1, 3, () -> vault.addGuard(7, false, 4));
        Check.throwsOnly("9 range first", vault, Check.ARGUMENT, () -> vault.addGuard(8, false, 4));
        ShareVault noisy = new ShareVault();
        noisy.hum(2, 3);
        noisy.addGuard(2, true, 2);
        Check.due("9 noise stays", noisy.noise(2), 3);
    }

    private static void promise10TurnGuard() {
        ShareVault vault = new ShareVault();
        vault.addGuard(0, true, 1);
        vault.addGuard(4, false, 1);
        Check.due("10 backwards", vault.turnGuard(0), false);
        Check.due("10 forwards", vault.turnGuard(1), true);
        vault.passHours(1);
        Check.due("10 walks back", vault.zoneOf(0), 7);
        Check.due("10 walks on", vault.zoneOf(1), 5);
        Check.due("10 again", vault.turnGuard(0), true);
        for (int guard : new int[] {-1, 2, 3, MIN, MAX}) {
            Check.throwsOnly("10 guard", vault, Check.INDEX, () -> vault.turnGuard(guard));
        }
    }

    private static void promise11Hum() {
        ShareVault vault = new ShareVault();
        Check.due("11 one", vault.hum(0, 1), 1);
        Check.due("11 nine", vault.hum(7, 9), 9);
        Check.due("11 more", vault.hum(7, 9), 18);
        Check.due("11 up to", vault.hum(7, 2), 20);
        Check.due("11 not above", vault.hum(7, 9), 20);
        Check.due("11 others", vault.noise(6), 0);
        for (int zone : new int[] {-1, 8, MIN, MAX}) {
            Check.throwsOnly("11 zone", vault, Check.ARGUMENT, () -> vault.hum(zone, 1));
        }
        for (int loudness : new int[] {-1, 0, 10, MIN, MAX}) {
            Check.throwsOnly("11 loudness", vault, Check.ARGUMENT, () -> vault.hum(0, loudness));
        }
    }

    private static void promise12PassHours() {
        ShareVault vault = new ShareVault();
        vault.hum(3, 4);
        vault.hum(4, 5);
        vault.hum(5, 9);
        Check.due("12 alarms", vault.passHours(1), 2);
        Check.due("12 noise", Check.zonesOf(vault), "0 0 0 3 0 0 0 0");
        Check.due("12 fades", vault.passHours(24), 0);
        Check.due("12 silent", Check.zonesOf(vault), "0 0 0 0 0 0 0 0");
        Check.due("12 hour", vault.hour(), 25);
        for (int hours : new int[] {-1, 0, 25, MIN, MAX}) {
            Check.throwsOnly("12 hours", vault, Check.ARGUMENT, () -> vault.passHours(hours));
        }
        ShareVault walking = new ShareVault();
        walking.addGuard(0, true, 1);
        walking.addGuard(0, false, 3);
        walking.addGuard(6, true, 4);
        walking.passHours(1);
        Check.due("12 after 1", Check.zonesOf(walking), "0< 0> 0 0 0 0 0> 0");
        walking.passHours(2);
        Check.due("12 after 3", Check.zonesOf(walking), "0 0 0 0> 0 0 0> 0<");
        walking.passHours(5);
        Check.due("12 after 8", Check.zonesOf(walking), "0>> 0 0 0 0 0 0< 0");
    }

    private static void promise12Order() {
        ShareVault vault = new ShareVault();
        vault.addGuard(2, true, 2);
        vault.hum(2, 9);
        vault.hum(3, 9);
        vault.hum(1, 9);
        Check.due("12 beside a guard", vault.passHours(1), 0);
        Check.due("12 in and beside", Check.zonesOf(vault), "0 8 0> 8 0 0 0 0");
        // The guard walks before the zones are visited: 1 is without a guard beside it now.
        Check.due("12 walks first", vault.passHours(1), 1);
        Check.due("12 walked", Check.zonesOf(vault), "0 0 0 0> 0 0 0 0");
        Check.due("12 hour of the alarm", Check.logOf(vault), "2a1");
        ShareVault ring = new ShareVault();
        ring.addGuard(0, false, 4);
        ring.hum(7, 5);
        ring.hum(1, 5);
        ring.hum(6, 5);
        Check.due("12 ring", ring.passHours(1), 1);
        Check.due("12 ring log", Check.logOf(ring), "1a6");
        ShareVault end = new ShareVault();
        end.addGuard(7, true, 4);
        end.hum(0, 5);
        end.hum(6, 6);
        Check.due("12 ring end", end.passHours(1), 0);
        Check.due("12 ring end noise", Check.zonesOf(end), "4 0 0 0 0 0 5 0>");
        ShareVault loud = new ShareVault();
        for (int zone = 7; zone >= 0; zone--) {
            loud.hum(zone, 6);
        }
        loud.passHours(1);
        Check.due("12 ascending", Check.logOf(loud), "1a0 1a1 1a2 1a3 1a4 1a5 1a6 1a7");
    }

    private static void promises13To17() {
        ShareVault vault = new ShareVault();
        vault.passHours(7);
        Check.due("13", vault.hour(), 7);
        Check.due("14", vault.holderCount(), 0);
        vault.addHolder();
        vault.addHolder();
        Check.due("14", vault.holderCount(), 2);
        Check.due("15", vault.isSealed(), false);
        Check.throwsOnly("16", vault, Check.NO_ELEMENT, vault::threshold);
        Check.throwsOnly("17 not sealed", vault, Check.NO_ELEMENT, () -> vault.share(1));
        Check.throwsOnly("17 holder first", vault, Check.INDEX, () -> vault.share(2));
        vault.seal(10, 20, 30, 2);
        Check.due("15", vault.isSealed(), true);
        Check.due("16", vault.threshold(), 2);
        Check.due("17", vault.share(1), 50);
        for (int holder : new int[] {-1, 2, 8, MIN, MAX}) {
            Check.throwsOnly("17 holder", vault, Check.INDEX, () -> vault.share(holder));
        }
    }

    private static void promises18To21() {
        ShareVault vault = Vaults.withHolders(3);
        Check.throwsOnly("18 not sealed", vault, Check.NO_ELEMENT, () -> vault.isCorrect(2));
        Check.throwsOnly("18 holder first", vault, Check.INDEX, () -> vault.isCorrect(3));
        Check.due("19 not sealed", vault.isPresented(2), false);
        vault.seal(1, 2, 3, 2);
        Check.due("18", vault.isCorrect(2), true);
        vault.setShare(2, 6);
        Check.due("18 changed", vault.isCorrect(2), false);
        Check.due("18 others", vault.isCorrect(1), true);
        vault.present(2);
        vault.present(0);
        Check.due("19", vault.isPresented(2), true);
        Check.due("19 not", vault.isPresented(1), false);
        Check.due("20", vault.presentedCount(), 2);
        Check.due("21 first", vault.presentedAt(0), 2);
        Check.due("21 second", vault.presentedAt(1), 0);
        for (int place : new int[] {-1, 2, 8, MIN, MAX}) {
            Check.throwsOnly("21 place", vault, Check.NO_ELEMENT, () -> vault.presentedAt(place));
        }
        for (int holder : new int[] {-1, 3, 8, MIN, MAX}) {
            Check.throwsOnly("18 holder", vault, Check.INDEX, () -> vault.isCorrect(holder));
            Check.throwsOnly("19 holder", vault, Check.INDEX, () -> vault.isPresented(holder));
        }
    }

    private static void promises22To24Told() {
        ShareVault unsealed = Vaults.withHolders(1);
        toldThrows(unsealed);
        Check.throwsOnly("24 range first", unsealed, Check.ARGUMENT, () -> unsealed.toldValue(97));
        for (int threshold = 1; threshold <= 3; threshold++) {
            ShareVault vault = Vaults.sealed(8, threshold, 0);
            for (int presented = 0; presented < threshold; presented++) {
                toldThrows(vault);
                vault.present(7 - 3 * presented);
            }
            Check.due("22", vault.toldSecret(), 42);
            Check.due("23", vault.toldSecretByElimination(), 42);
            int at96 = threshold == 1 ? 42 : threshold == 2 ? 37 : 44;
            Check.due("24", vault.toldValue(96), at96);
            Check.due("24 at 0", vault.toldValue(0), 42);
            Check.due("24 at a position", vault.toldValue(8), vault.share(7));
        }
        ShareVault vault = Vaults.sealed(5, 2, 0);
        vault.present(4);
        vault.present(2);
        vault.present(0);
        vault.setShare(0, 0);
        Check.due("22 first alone", vault.toldSecret(), 42);
        Check.due("23 first alone", vault.toldSecretByElimination(), 42);
        vault.setShare(4, 66);
        // The line through (5, 66) and (3, 57) is 92 + 53x modulo 97.
        Check.due("22 wrong share", vault.toldSecret(), 92);
        Check.due("23 wrong share", vault.toldSecretByElimination(), 92);
        Check.due("24 wrong share", vault.toldValue(1), 48);
        for (int position : new int[] {-1, 97, MIN, MAX}) {
            Check.throwsOnly("24 range", vault, Check.ARGUMENT, () -> vault.toldValue(position));
        }
    }

    private static void toldThrows(ShareVault vault) {
        Check.throwsOnly("22", vault, Check.NO_ELEMENT, vault::toldSecret);
        Check.throwsOnly("23", vault, Check.NO_ELEMENT, vault::toldSecretByElimination);
        Check.throwsOnly("24", vault, Check.NO_ELEMENT, () -> vault.toldValue(0));
        Check.throwsOnly("25", vault, Check.NO_ELEMENT, vault::doAgree);
        Check.throwsOnly("26", vault, Check.NO_ELEMENT, vault::mostAgreeing);
        Check.throwsOnly("27", vault, Check.NO_ELEMENT, vault::mostAgreeingBySets);
    }

    private static void promises25To27Agreeing() {
        for (int threshold = 1; threshold <= 3; threshold++) {
            ShareVault vault = Vaults.sealed(8, threshold, 8);
            agreeing(vault, true, 8);
            for (int holder = 7; holder >= 0; holder--) {
                vault.setShare(holder, (vault.share(holder) + 11 * holder * holder * holder + 1) % 97);
                int right = Math.max(holder, threshold);
                Check.due("26 at least", vault.mostAgreeing() >= right, true);
                Check.due("27 the same", vault.mostAgreeingBySets(), vault.mostAgreeing());
                Check.due("25", vault.doAgree(), vault.mostAgreeing() == 8);
            }
        }
        ShareVault split = Vaults.sealed(7, 1, 7);
        split.setShare(0, 3);
        split.setShare(3, 3);
        split.setShare(6, 3);
        agreeing(split, false, 4);
        split.setShare(1, 3);
        agreeing(split, false, 4);
        split.setShare(2, 3);
        agreeing(split, false, 5);
        ShareVault lines = Vaults.sealed(5, 2, 5);
        lines.setShare(1, 0);
        agreeing(lines, false, 4);
        lines.setShare(4, 0);
        agreeing(lines, false, 3);
        ShareVault exact = Vaults.sealed(5, 3, 3);
        exact.setShare(1, 0);
        agreeing(exact, true, 3);
    }

    private static void agreeing(ShareVault vault, boolean all, int most) {
        Check.due("25", vault.doAgree(), all);
        Check.due("26", vault.mostAgreeing(), most);
        Check.due("27", vault.mostAgreeingBySets(), most);
    }

    private static void promises28To30Door() {
        ShareVault vault = Vaults.guarded(1, 1, 1);
        Check.due("28 closed", vault.isOpen(), false);
        Check.due("29 unlocked", vault.lockedHours(), 0);
        Check.due("30 none", vault.failedAttempts(), 0);
        vault.setShare(0, 1);
        vault.openVault();
        Check.due("30 one", vault.failedAttempts(), 1);
        vault.openVault();
        Check.due("30 two", vault.failedAttempts(), 2);
        vault.openVault();
        Check.due("30 locked", vault.failedAttempts(), 0);
        Check.due("29 locked", vault.lockedHours(), 6);
        Check.due("28 open", Vaults.opened(1, 1, 1).isOpen(), true);
    }

    private static void promises31To35Zones() {
        ShareVault vault = new ShareVault();
        Check.throwsOnly("32 none", vault, Check.INDEX, () -> vault.zoneOf(0));
        Check.throwsOnly("33 none", vault, Check.INDEX, () -> vault.isForwards(0));
        Check.due("35 unguarded", vault.isGuarded(0), false);
        vault.addGuard(7, true, 1);
        vault.addGuard(4, false, 2);
        Check.due("31", vault.guardCount(), 2);
        Check.due("32", vault.zoneOf(1), 4);
        Check.due("33", vault.isForwards(0), true);
        Check.due("33 backwards", vault.isForwards(1), false);
        vault.hum(3, 7);
        Check.due("34", vault.noise(3), 7);
        boolean[] guarded = {true, false, false, true, true, true, true, true};
        for (int zone = 0; zone < 8; zone++) {
            Check.due("35 " + zone, vault.isGuarded(zone), guarded[zone]);
        }
        ShareVault low = new ShareVault();
        low.addGuard(0, true, 1);
        Check.due("35 below", low.isGuarded(7), true);
        Check.due("35 farther", low.isGuarded(6), false);
        for (int guard : new int[] {-1, 2, 3, MIN, MAX}) {
            Check.throwsOnly("32 guard", vault, Check.INDEX, () -> vault.zoneOf(guard));
            Check.throwsOnly("33 guard", vault, Check.INDEX, () -> vault.isForwards(guard));
        }
        for (int zone : new int[] {-1, 8, MIN, MAX}) {
            Check.throwsOnly("34 zone", vault, Check.ARGUMENT, () -> vault.noise(zone));
            Check.throwsOnly("35 zone", vault, Check.ARGUMENT, () -> vault.isGuarded(zone));
        }
    }

    private static void promises36And37Visits() {
        ShareVault vault = new ShareVault();
        Check.throwsOnly("36 no guards", vault, Check.NO_ELEMENT, () -> vault.hoursUntilVisit(0));
        Check.throwsOnly("37 no guards", vault, Check.NO_ELEMENT, () -> vault.hoursUntilVisitByRemainders(0));
        for (int zone : new int[] {-1, 8, MIN, MAX}) {
            Check.throwsOnly("36 zone", vault, Check.ARGUMENT, () -> vault.hoursUntilVisit(zone));
            Check.throwsOnly("37 zone", vault, Check.ARGUMENT, () -> vault.hoursUntilVisitByRemainders(zone));
        }
        vault.addGuard(0, true, 4);
        visits(vault, 0, 4, 8, 12, 16, 20, 24, 28);
        vault.passHours(3);
        visits(vault, 0, 1, 5, 9, 13, 17, 21, 25);
        vault.addGuard(0, false, 3);
        visits(vault, 0, 1, 5, 9, 12, 9, 6, 3);
        vault.addGuard(4, true, 1);
        visits(vault, 0, 1, 5, 7, 0, 1, 2, 3);
        vault.turnGuard(2);
        visits(vault, 0, 1, 2, 1, 0, 7, 6, 3);
    }

    private static void visits(ShareVault vault, int... hours) {
        for (int zone = 0; zone < 8; zone++) {
            Check.due("36 " + zone, vault.hoursUntilVisit(zone), hours[zone]);
            Check.due("37 " + zone, vault.hoursUntilVisitByRemainders(zone), hours[zone]);
        }
    }

    private static void promise38AlarmsIn() {
        ShareVault vault = new ShareVault();
        vault.addGuard(0, true, 1);
        vault.hum(2, 9);
        vault.hum(5, 5);
        vault.hum(6, 9);
        vault.hum(6, 9);
        String before = Check.stateOf(vault);
        Check.due("38 none", vault.alarmsIn(0), 0);
        Check.due("38 one hour", vault.alarmsIn(1), 2);
        Check.due("38 a day", vault.alarmsIn(24), 2);
        Check.due("38 changes nothing", Check.stateOf(vault), before);
        Check.due("38 happens", vault.passHours(24), 2);
        Check.due("38 from now on", vault.alarmsIn(24), 0);
        for (int hours : new int[] {-1, 25, MIN, MAX}) {
            Check.throwsOnly("38 hours", vault, Check.ARGUMENT, () -> vault.alarmsIn(hours));
        }
    }

    private static void promise39ZoneByNoise() {
        ShareVault vault = new ShareVault();
        order(vault, 0, 1, 2, 3, 4, 5, 6, 7);
        vault.hum(5, 5);
        vault.hum(2, 5);
        vault.passHours(1);
        vault.hum(5, 5);
        vault.passHours(1);
        order(vault, 5, 2, 0, 1, 3, 4, 6, 7);
        vault.hum(7, 2);
        vault.hum(1, 1);
        vault.hum(2, 1);
        vault.hum(0, 1);
        order(vault, 7, 2, 0, 1, 5, 3, 4, 6);
        for (int rank : new int[] {-1, 8, MIN, MAX}) {
            Check.throwsOnly("39 rank", vault, Check.NO_ELEMENT, () -> vault.zoneByNoise(rank));
        }
    }

    private static void order(ShareVault vault, int... zones) {
        for (int rank = 0; rank < 8; rank++) {
            Check.due("39 " + rank, vault.zoneByNoise(rank), zones[rank]);
        }
    }

    private static void promises40To42Sums() {
        ShareVault vault = Vaults.opened(2, 1, 1);
        vault.hum(4, 9);
        vault.hum(5, 9);
        vault.passHours(1);
        vault.hum(4, 9);
        vault.passHours(1);
        Check.due("40", vault.alarmsOf(4), 2);
        Check.due("40", vault.alarmsOf(5), 1);
        Check.due("40", vault.alarmsOf(3), 0);
        Check.due("41", vault.alarmCount(), 3);
        Check.due("42", vault.openingCount(), 1);
        vault.closeVault();
        vault.present(1);
        vault.openVault();
        Check.due("42 again", vault.openingCount(), 2);
        for (int zone : new int[] {-1, 8, MIN, MAX}) {
            Check.throwsOnly("40 zone", vault, Check.ARGUMENT, () -> vault.alarmsOf(zone));
        }
    }

    private static void promises43To46Log() {
        ShareVault vault = Vaults.opened(3, 2, 2);
        vault.hum(4, 9);
        vault.passHours(2);
        vault.closeVault();
        Check.due("43", vault.logCount(), 3);
        entry(vault, 0, 0, 'o', 2);
        entry(vault, 1, 1, 'a', 4);
        entry(vault, 2, 2, 'c', 0);
        for (int place : new int[] {-1, 3, 12, MIN, MAX}) {
            Check.throwsOnly("44 place", vault, Check.NO_ELEMENT, () -> vault.logHour(place));
            Check.throwsOnly("45 place", vault, Check.NO_ELEMENT, () -> vault.logKind(place));
            Check.throwsOnly("46 place", vault, Check.NO_ELEMENT, () -> vault.logDetail(place));
        }
        for (int more = 3; more < 12; more++) {
            vault.hum(4, 9);
            vault.passHours(1);
        }
        Check.due("43 full", vault.logCount(), 12);
        entry(vault, 0, 0, 'o', 2);
        vault.hum(5, 9);
        vault.passHours(1);
        Check.due("43 stays full", vault.logCount(), 12);
        entry(vault, 0, 1, 'a', 4);
        entry(vault, 1, 2, 'c', 0);
        entry(vault, 11, 12, 'a', 5);
        Check.throwsOnly("44 twelve", vault, Check.NO_ELEMENT, () -> vault.logHour(12));
    }

    private static void entry(ShareVault vault, int place, int hour, char kind, int detail) {
        Check.due("44 hour", vault.logHour(place), hour);
        Check.due("45 kind", vault.logKind(place), kind);
        Check.due("46 detail", vault.logDetail(place), detail);
    }

    private static void promises47And48Shares() {
        ShareVault vault = new ShareVault();
        Check.due("47 silent", vault.meanNoise(), 0.0);
        Check.throwsOnly("48 none", vault, Check.ARITHMETIC, () -> vault.alarmShare(0));
        for (int zone : new int[] {-1, 8, MIN, MAX}) {
            Check.throwsOnly("48 zone first", vault, Check.ARGUMENT, () -> vault.alarmShare(zone));
        }
        vault.hum(1, 9);
        vault.hum(2, 4);
        Check.due("47", vault.meanNoise(), 13 / 8.0);
        vault.passHours(1);
        vault.hum(1, 9);
        vault.hum(6, 9);
        vault.passHours(1);
        Check.due("48", vault.alarmShare(1), 2 / 3f);
        Check.due("48", vault.alarmShare(6), 1 / 3f);
        Check.due("48", vault.alarmShare(0), 0f);
    }

    private static void promise49IsConsistent() {
        Check.due("49 new", new ShareVault().isConsistent(), true);
        ShareVault vault = Vaults.opened(8, 3, 8);
        vault.setShare(2, 1);
        vault.hum(4, 9);
        vault.addGuard(3, false, 3);
        vault.passHours(5);
        String before = Check.stateOf(vault);
        Check.due("49", vault.isConsistent(), true);
        Check.due("49 changes nothing", Check.stateOf(vault), before);
    }

    private static void promises50To52Refusals() {
        ShareVault vault = new ShareVault();
        Check.throwsOnly("50 none", vault, Check.NO_ELEMENT, vault::refusalReason);
        Check.throwsOnly("51 none", vault, Check.NO_ELEMENT, vault::refusalDetail);
        Check.throwsOnly("52 none", vault, Check.NO_ELEMENT, vault::refusalCause);
        Check.refused("50", vault, 3, 0, vault::openVault);
        Check.outcomeOf(() -> vault.turnGuard(0));
        Check.outcomeOf(() -> vault.hum(9, 9));
        Check.due("50 others are no refusals", vault.refusalReason(), 3);
        vault.addHolder();
        Check.due("50 kept", vault.refusalReason(), 3);
        failing(vault, "holder;close", 1, 3);
        Check.refused("52 no cause any more", vault, 2, 1, () -> vault.seal(1, 1, 1, 2));
        vault.undo();
        vault.save();
        vault.restore();
        Check.due("50 not undone", vault.refusalReason(), 2);
        Check.due("51 not undone", vault.refusalDetail(), 1);
        failing(vault, "open", 0, 3);
        vault.restore();
        Check.due("52 not restored", vault.refusalCause(), 3);
    }

    private static void failing(ShareVault vault, String text, int command, int cause) {
        Check.feedAll(vault, text);
        Check.throwsOnly(text, vault, Check.REFUSED, vault::runCommands);
        Check.due(text + " reason", vault.refusalReason(), 11);
        Check.due(text + " detail", vault.refusalDetail(), command);
        Check.due(text + " cause", vault.refusalCause(), cause);
        Check.due(text + " is taken away", vault.feed('x'), 1);
        Check.throwsOnly("x", vault, Check.ARGUMENT, vault::runCommands);
    }

    private static void promise53Feed() {
        ShareVault vault = new ShareVault();
        for (int length = 1; length <= 60; length++) {
            Check.due("53 length", vault.feed((char) (length * 1000)), length);
        }
        Check.throwsOnly("53 full", vault, Check.ILLEGAL_STATE, () -> vault.feed('a'));
        Check.throwsOnly("53 malformed", vault, Check.ARGUMENT, vault::runCommands);
        Check.due("53 empty", vault.feed('a'), 1);
        ShareVault kept = new ShareVault();
        Check.feedAll(kept, "holde");
        kept.addHolder();
        kept.save();
        kept.undo();
        kept.restore();
        Check.due("53 not undone or restored", kept.feed('r'), 6);
        Check.due("53 runs", kept.runCommands(), 1);
        Check.due("53 two", kept.holderCount(), 2);
    }

    private static void promise54RunCommands() {
        ShareVault vault = new ShareVault();
        Check.due("54 one", Check.run(vault, "holder"), 1);
        Check.due("54 many", Check.run(vault, "holder;guard 0+4;seal 50 0 00 1;give 0;open;hum 3 9;wait 2"), 7);
        Check.due("54 open", vault.isOpen(), true);
        Check.due("54 log", Check.logOf(vault), "0o1 1a3");
        Check.due("54 undo once", vault.undo(), 1);
        Check.due("54 undone", Check.stateOf(vault).contains("true"), false);
        Check.due("54 holder stays", vault.holderCount(), 1);
        Check.due("54 most", Check.run(vault, "wait;".repeat(11) + "wait"), 12);
        Check.due("54 hours", vault.hour(), 12);
        Check.throwsOnly("54 empty", vault, Check.ARGUMENT, vault::runCommands);
        Check.due("54 empty at 0", vault.errorPosition(), 0);
        ShareVault twice = Vaults.guarded(2, 2, 2);
        twice.setShare(0, 1);
        Check.run(twice, "wait 1");
        failing(twice, "hum 1 9;open", 1, 12);
        Check.due("54 no failure is kept", twice.failedAttempts(), 0);
        Check.due("54 no log is kept", twice.logCount(), 0);
    }

    private static void promise54EachCommand() {
        same("holder", ShareVault::addHolder);
        same("seal 1 22 03 2", vault -> vault.seal(1, 22, 3, 2));
        same("seal 96 96 96 03", vault -> vault.seal(96, 96, 96, 3));
        same("share 2 7", vault -> vault.setShare(2, 7));
        same("share 0 96", vault -> vault.setShare(0, 96));
        same("give 3", vault -> vault.present(3));
        same("back 1", vault -> vault.takeBack(1));
        same("open", ShareVault::openVault);
        same("guard 7+3", vault -> vault.addGuard(7, true, 3));
        same("guard 3-1", vault -> vault.addGuard(3, false, 1));
        same("turn 0", vault -> vault.turnGuard(0));
        same("hum 4 6", vault -> vault.hum(4, 6));
        same("wait", vault -> vault.passHours(1));
        same("wait 3", vault -> vault.passHours(3));
        same("wait 24", vault -> vault.passHours(24));
        ShareVault vault = Vaults.opened(1, 1, 1);
        Check.run(vault, "close");
        Check.due("54 close", Check.logOf(vault), "0o1 0c0");
    }

    private static void same(String text, Vaults.Step step) {
        ShareVault vault = Vaults.guarded(4, 2, 2);
        ShareVault other = Vaults.guarded(4, 2, 2);
        Check.run(vault, text);
        step.take(other);
        vault.passHours(5);
        other.passHours(5);
        Check.due("54 " + text, Check.stateOf(vault), Check.stateOf(other));
    }

    private static void promise54Causes() {
        failing(Vaults.withHolders(8), "holder", 0, 1);
        failing(Vaults.withHolders(1), "wait;seal 1 1 1 2", 1, 2);
        failing(Vaults.withHolders(1), "give 0", 0, 3);
        failing(Vaults.withHolders(1), "back 0", 0, 3);
        failing(Vaults.withHolders(1), "share 0 96", 0, 3);
        failing(Vaults.withHolders(1), "close", 0, 3);
        failing(Vaults.sealed(2, 1, 0), "give 1;give 1", 1, 4);
        failing(Vaults.sealed(2, 1, 0), "back 1", 0, 5);
        failing(Vaults.opened(2, 1, 1), "open", 0, 6);
        failing(Vaults.locked(), "open", 0, 7);
        failing(Vaults.sealed(2, 1, 0), "open", 0, 8);
        failing(Vaults.sealed(2, 1, 1), "open", 0, 9);
        failing(Vaults.sealed(2, 1, 1), "close", 0, 10);
        failing(new ShareVault(), "guard 0+1;guard 0+1;guard 0+1;guard 0+1", 3, 1);
        String[] others = {"seal 97 0 0 1", "seal 0 99 0 1", "seal 0 0 97 1", "seal 0 0 0 4", "seal 0 0 0 0",
            "share 2 5", "share 0 97", "give 2", "back 9", "guard 8+1", "guard 0+0", "guard 0-5", "turn 0",
            "hum 8 1", "hum 0 0", "wait 0", "wait 00", "wait 25", "wait 99"};
        for (String text : others) {
            failing(Vaults.sealed(2, 1, 0), text, 0, 12);
            String later = text.replace("share 2", "share 9").replace("give 2", "give 9");
            failing(Vaults.sealed(2, 1, 0), "holder;" + later, 1, 12);
        }
    }

    private static void promise55ErrorPosition() {
        ShareVault vault = new ShareVault();
        Check.throwsOnly("55 none", vault, Check.NO_ELEMENT, vault::errorPosition);
        String[] texts = {"", "x", "h", "ho", "hx", "hux", "holders", "holder;", "holder;;", "Holder", "holder ",
            "seal", "seal 1", "seal 100", "seal 1 2 3 4 ", "sh", "sx", "give  1", "give 10", "guard 1*", "guard 1+",
            "guard 1+11", "wait ", "wait 1 ", "wait 123", "wait;w", "open close", "gi1", "gu ", "turn", "clo;"};
        int[] positions = {0, 0, 1, 2, 1, 2, 6, 7, 7, 0, 6,
            4, 6, 7, 12, 2, 1, 5, 6, 7, 8,
            9, 5, 6, 7, 6, 4, 2, 2, 4, 3};
        for (int index = 0; index < texts.length; index++) {
            Check.feedAll(vault, texts[index]);
            Check.throwsOnly("55 " + texts[index], vault, Check.ARGUMENT, vault::runCommands);
            Check.due("55 " + texts[index], vault.errorPosition(), positions[index]);
        }
        Check.run(vault, "holder");
        vault.undo();
        Check.due("55 latest malformed", vault.errorPosition(), 3);
        failing(vault, "open", 0, 3);
        Check.feedAll(vault, "ope");
        Check.throwsOnly("55 refusal stays", vault, Check.ARGUMENT, vault::runCommands);
        Check.due("55 refusal stays", vault.refusalReason(), 11);
    }

    private static void promise56WriteZones() {
        ShareVault vault = new ShareVault();
        vault.addGuard(0, true, 1);
        vault.addGuard(0, false, 2);
        vault.addGuard(5, false, 2);
        vault.hum(1, 9);
        vault.hum(1, 3);
        vault.hum(3, 3);
        vault.hum(7, 9);
        vault.hum(7, 9);
        vault.hum(7, 9);
        Check.due("56 length", vault.writeZones(), 20);
        Check.due("56", Check.zonesOf(vault), "0>< 12 0 3 0 0< 0 20");
        vault.turnGuard(0);
        vault.hum(0, 9);
        vault.hum(0, 1);
        Check.due("56 turned", Check.zonesOf(vault), "10<< 12 0 3 0 0< 0 20");
    }

    private static void promise57WriteLog() {
        ShareVault vault = Vaults.guarded(3, 2, 2);
        Check.due("57 empty", vault.writeLog(), 0);
        vault.hum(5, 9);
        vault.passHours(1);
        vault.setShare(0, 0);
        vault.openVault();
        vault.setShare(0, 47);
        vault.openVault();
        Check.due("57 length", vault.writeLog(), 11);
        Check.due("57", Check.logOf(vault), "1a5 1f2 1o2");
        for (int hours = 0; hours < 100; hours++) {
            vault.passHours(10);
        }
        vault.closeVault();
        Check.due("57 long hours", Check.logOf(vault), "1a5 1f2 1o2 1001c0");
    }

    private static void promise58OutputChar() {
        ShareVault vault = new ShareVault();
        Check.throwsOnly("58 empty", vault, Check.INDEX, () -> vault.outputChar(0));
        vault.writeZones();
        Check.due("58 first", vault.outputChar(0), '0');
        Check.due("58 blank", vault.outputChar(13), ' ');
        for (int index : new int[] {-1, 15, 200, MIN, MAX}) {
            Check.throwsOnly("58 index", vault, Check.INDEX, () -> vault.outputChar(index));
        }
        vault.hum(0, 9);
        vault.undo();
        vault.hum(0, 8);
        vault.save();
        vault.restore();
        Check.due("58 not changed by others", vault.outputChar(0), '0');
        vault.writeLog();
        Check.throwsOnly("58 replaced", vault, Check.INDEX, () -> vault.outputChar(0));
    }

    private static void promises59And60Undo() {
        ShareVault vault = new ShareVault();
        Check.throwsOnly("60 none", vault, Check.ILLEGAL_STATE, vault::undo);
        String[] states = new String[13];
        for (int call = 0; call < 12; call++) {
            states[call] = Check.savedPartOf(vault);
            Check.due("59", vault.undoCount(), Math.min(call, 8));
            vault.hum(call % 8, 1 + call % 9);
        }
        for (int call = 11; call >= 4; call--) {
            Check.due("60 left", vault.undo(), call - 4);
            Check.due("60 state", Check.savedPartOf(vault), states[call]);
        }
        Check.throwsOnly("60 no more", vault, Check.ILLEGAL_STATE, vault::undo);
        ShareVault full = Vaults.withHolders(8);
        for (int call = 0; call < 20; call++) {
            Check.outcomeOf(full::addHolder);
        }
        for (int holders = 7; holders >= 0; holders--) {
            full.undo();
            Check.due("60 failed calls are not recorded", full.holderCount(), holders);
        }
        full.addHolder();
        full.addHolder();
        Check.due("60 after undo", full.undo(), 1);
        Check.due("60 after undo", full.holderCount(), 1);
    }

    private static void promise60EachCall() {
        undone("addHolder", ShareVault::addHolder);
        undone("seal", vault -> vault.seal(1, 2, 3, 1));
        undone("setShare", vault -> vault.setShare(0, 9));
        undone("setShare to the same", vault -> vault.setShare(0, vault.share(0)));
        undone("present", vault -> vault.present(2));
        undone("takeBack", vault -> vault.takeBack(0));
        undone("openVault", ShareVault::openVault);
        undone("addGuard", vault -> vault.addGuard(4, false, 3));
        undone("turnGuard", vault -> vault.turnGuard(0));
        undone("hum", vault -> vault.hum(5, 5));
        undone("passHours", vault -> vault.passHours(24));
        undone("runCommands", vault -> Check.run(vault, "holder;wait 24;hum 1 1"));
        ShareVault failing = Vaults.guarded(3, 2, 2);
        failing.setShare(0, 1);
        failing.openVault();
        failing.openVault();
        String before = Check.savedPartOf(failing);
        Check.due("60 failed attempt", failing.openVault(), false);
        failing.undo();
        Check.due("60 failed attempt is recorded", Check.savedPartOf(failing), before);
        ShareVault closing = Vaults.opened(3, 2, 3);
        before = Check.savedPartOf(closing);
        closing.closeVault();
        closing.undo();
        Check.due("60 closeVault", Check.savedPartOf(closing), before);
        ShareVault loud = new ShareVault();
        for (int call = 0; call < 4; call++) {
            loud.hum(0, 9);
        }
        Check.due("60 without a change", loud.undoCount(), 4);
        loud.undo();
        Check.due("60 without a change", loud.noise(0), 20);
    }

    private static void undone(String what, Vaults.Step step) {
        ShareVault vault = Vaults.guarded(4, 2, 2);
        vault.hum(4, 9);
        vault.passHours(1);
        int calls = vault.undoCount();
        String before = Check.stateOf(vault);
        step.take(vault);
        Check.due("60 " + what + " is recorded", vault.undoCount(), Math.min(calls + 1, 8));
        Check.due("60 " + what + " counts down", vault.undo(), Math.min(calls, 7));
        Check.due("60 " + what, Check.stateOf(vault), before.replaceAll("undo \\d", "undo " + vault.undoCount()));
    }

    /** With a full log, a new entry moves all others, so that each of them has to come back. */
    private static void promises60And62FullLog() {
        ShareVault vault = Vaults.opened(3, 2, 2);
        for (int hours = 1; hours < 12; hours++) {
            raiseAlarm(vault, hours);
        }
        Check.due("60 full log", vault.logCount(), 12);
        String full = Check.logOf(vault);
        vault.save();
        vault.closeVault();
        Check.due("60 oldest goes", Check.logOf(vault), full.substring(4) + " 66c0");
        vault.undo();
        Check.due("60 full log comes back", Check.logOf(vault), full);
        vault.closeVault();
        for (int hours = 0; hours < 13; hours++) {
            raiseAlarm(vault, 3);
        }
        vault.restore();
        Check.due("62 full log comes back", Check.logOf(vault), full);
        Check.due("62 openings come back", vault.openingCount(), 1);
    }

    private static void raiseAlarm(ShareVault vault, int hours) {
        // The guard must be neither there nor beside it, also if it walks in this hour.
        vault.hum((vault.zoneOf(0) + 4) % 8, 9);
        vault.passHours(hours);
    }

    private static void promises61And62Save() {
        ShareVault vault = Vaults.guarded(4, 2, 3);
        Check.throwsOnly("62 none", vault, Check.ILLEGAL_STATE, vault::restore);
        vault.setShare(3, 1);
        vault.openVault();
        vault.hum(5, 9);
        vault.passHours(2);
        int calls = vault.undoCount();
        String before = Check.savedPartOf(vault);
        Check.due("61 holders", vault.save(), 4);
        Check.due("61 keeps undo", vault.undoCount(), calls);
        vault.closeVault();
        vault.addHolder();
        vault.seal(1, 1, 1, 1);
        vault.turnGuard(0);
        vault.hum(6, 9);
        vault.passHours(9);
        Check.due("62 holders", vault.restore(), 4);
        Check.due("62 state", Check.savedPartOf(vault), before);
        Check.due("62 no undo", vault.undoCount(), 0);
        Check.throwsOnly("62 no undo", vault, Check.ILLEGAL_STATE, vault::undo);
        vault.closeVault();
        vault.undo();
        vault.undoCount();
        vault.hum(1, 1);
        vault.restore();
        Check.due("62 kept", Check.savedPartOf(vault), before);
        vault.addHolder();
        Check.due("61 replaces", vault.save(), 5);
        vault.undo();
        Check.due("61 not undone", vault.restore(), 5);
        new ShareVault().save();
        Check.due("61 own", vault.restore(), 5);
    }
}

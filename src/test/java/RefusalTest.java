/**
 * Each reason of a refusal for each method that lists it, with the least and the greatest detail, in the order in
 * which the reasons are checked; the exceptions that come before a refusal; and the causes of a text's refusal.
 */
public final class RefusalTest {
    private RefusalTest() {
    }

    public static void main(String[] args) {
        limits();
        fewHolders();
        notSealed();
        presentedKeys();
        openAndLocked();
        fewKeys();
        unguarded();
        closed();
        orderOfReasons();
        otherExceptionsFirst();
        causes();
        otherCauses();
        indexOfTheCommand();
        latestRefusal();
        Check.end();
    }

    private static void taken(String what, ShareVault vault, Vaults.Step step, Object answer) {
        Check.due(what + " is not refused", Check.outcomeOf(() -> step.take(vault)), String.valueOf(answer));
        Check.due(what + " is not refused", Check.outcomeOf(vault::refusalReason), "NoSuchElementException");
    }

    private static void limits() {
        taken("2 eighth", Vaults.withHolders(7), ShareVault::addHolder, 7);
        Twin.refused("2 ninth", 1, 8, () -> Vaults.withHolders(8), ShareVault::addHolder);
        Twin.refused("2 ninth, open", 1, 8, () -> Vaults.opened(8, 3, 8), ShareVault::addHolder);
        Vaults.Step guard = vault -> vault.addGuard(0, true, 1);
        taken("9 third", Vaults.withGuards(0, 0), guard, 2);
        Twin.refused("9 fourth", 1, 3, () -> Vaults.withGuards(0, 0, 0), guard);
        Twin.refused("9 fourth elsewhere", 1, 3, () -> Vaults.withGuards(5, 6, 7), guard);
    }

    private static void fewHolders() {
        for (int threshold = 1; threshold <= 3; threshold++) {
            int needed = threshold;
            Vaults.Step seal = vault -> vault.seal(96, 0, 96, needed);
            for (int holders = 0; holders < threshold; holders++) {
                int fewer = holders;
                Twin.refused("3 few holders", 2, holders, () -> Vaults.withHolders(fewer), seal);
            }
            taken("3 holders enough", Vaults.withHolders(threshold), seal, threshold);
        }
        Twin.refused("3 sealed, closed", 2, 2, () -> Vaults.sealed(2, 2, 1), vault -> vault.seal(1, 1, 1, 3));
        Twin.refused("3 sealed, open", 2, 1, () -> Vaults.opened(1, 1, 1), vault -> vault.seal(1, 1, 1, 2));
        Twin.refused("3 sealed, locked", 2, 1, Vaults::locked, vault -> vault.seal(1, 1, 1, 3));
    }

    private static void notSealed() {
        Vaults.Maker maker = () -> {
            ShareVault vault = Vaults.withHolders(8);
            vault.addGuard(1, true, 1);
            return vault;
        };
        for (int holder = 0; holder < 8; holder += 7) {
            int index = holder;
            Twin.refused("4 not sealed", 3, 0, maker, vault -> vault.setShare(index, 0));
            Twin.refused("5 not sealed", 3, 0, maker, vault -> vault.present(index));
            Twin.refused("6 not sealed", 3, 0, maker, vault -> vault.takeBack(index));
        }
        Twin.refused("7 not sealed", 3, 0, maker, ShareVault::openVault);
        Twin.refused("8 not sealed", 3, 0, maker, ShareVault::closeVault);
        Twin.refused("7 not sealed, new", 3, 0, ShareVault::new, ShareVault::openVault);
        Twin.refused("8 not sealed, new", 3, 0, ShareVault::new, ShareVault::closeVault);
        Twin.refused("7 not sealed any more", 3, 0, RefusalTest::unsealedByUndo, ShareVault::openVault);
        Twin.refused("5 not sealed any more", 3, 0, RefusalTest::unsealedByUndo, vault -> vault.present(0));
    }

    private static ShareVault unsealedByUndo() {
        ShareVault vault = Vaults.sealed(1, 1, 1);
        vault.undo();
        vault.undo();
        return vault;
    }

    private static void presentedKeys() {
        Vaults.Maker all = () -> Vaults.sealed(8, 1, 8);
        Vaults.Maker none = () -> Vaults.sealed(8, 1, 0);
        for (int holder = 0; holder < 8; holder++) {
            int index = holder;
            Twin.refused("5 presented", 4, holder, all, vault -> vault.present(index));
            Twin.refused("6 not presented", 5, holder, none, vault -> vault.takeBack(index));
            taken("5 not presented", none.make(), vault -> vault.present(index), 1);
            taken("6 presented", all.make(), vault -> vault.takeBack(index), 7);
        }
        Vaults.Maker shifted = () -> {
            ShareVault vault = Vaults.sealed(8, 1, 3);
            vault.takeBack(0);
            vault.present(0);
            return vault;
        };
        Twin.refused("5 place after taking back", 4, 0, shifted, vault -> vault.present(1));
        Twin.refused("5 place after presenting again", 4, 2, shifted, vault -> vault.present(0));
        Twin.refused("5 presented, open", 4, 1, () -> Vaults.opened(2, 2, 2), vault -> vault.present(1));
        Twin.refused("5 presented, locked", 4, 0, Vaults::locked, vault -> vault.present(0));
        Twin.refused("6 taken back by closing", 5, 1, RefusalTest::openedAndClosed, vault -> vault.takeBack(1));
    }

    private static ShareVault openedAndClosed() {
        ShareVault vault = Vaults.opened(2, 2, 2);
        vault.closeVault();
        return vault;
    }

    private static void openAndLocked() {
        for (int presented = 0; presented <= 8; presented++) {
            int keys = presented;
            Twin.refused("7 open", 6, presented, () -> openWith(keys), ShareVault::openVault);
        }
        for (int hours = 0; hours < 6; hours++) {
            int passed = hours;
            Twin.refused("7 locked", 7, 6 - hours, () -> lockedFor(passed), ShareVault::openVault);
        }
        ShareVault vault = lockedFor(6);
        vault.addGuard(0, true, 4);
        taken("7 not locked any more", vault, ShareVault::openVault, false);
    }

    private static ShareVault openWith(int presented) {
        ShareVault vault = Vaults.opened(8, 1, Math.max(presented, 1));
        if (presented == 0) {
            vault.takeBack(0);
        }
        return vault;
    }

    private static ShareVault lockedFor(int passedHours) {
        ShareVault vault = Vaults.locked();
        for (int hour = 0; hour < passedHours; hour++) {
            vault.passHours(1);
        }
        return vault;
    }

    private static void fewKeys() {
        for (int threshold = 1; threshold <= 3; threshold++) {
            for (int presented = 0; presented < threshold; presented++) {
                int needed = threshold;
                int keys = presented;
                int missing = threshold - presented;
                Twin.refused("7 few keys", 8, missing, () -> Vaults.guarded(8, needed, keys), ShareVault::openVault);
            }
            taken("7 keys enough", Vaults.guarded(8, threshold, threshold), ShareVault::openVault, true);
        }
        Twin.refused("7 keys taken back by closing", 8, 2, RefusalTest::openedAndClosed, ShareVault::openVault);
    }

    private static void unguarded() {
        int[][] zones = {{}, {1}, {7}, {1, 7}, {4, 4, 7}};
        for (int[] each : zones) {
            Vaults.Maker maker = () -> {
                ShareVault vault = Vaults.sealed(3, 2, 3);
                for (int zone : each) {
                    vault.addGuard(zone, true, 4);
                }
                return vault;
            };
            Twin.refused("7 no guard in the zone 0", 9, each.length, maker, ShareVault::openVault);
        }
        ShareVault vault = Vaults.sealed(3, 2, 3);
        vault.addGuard(1, true, 1);
        vault.addGuard(2, true, 1);
        vault.addGuard(0, true, 1);
        taken("7 third guard in the zone 0", vault, ShareVault::openVault, true);
    }

    private static void closed() {
        for (int attempts = 0; attempts < 3; attempts++) {
            int failures = attempts;
            Twin.refused("8 closed", 10, attempts, () -> Vaults.failed(failures), ShareVault::closeVault);
        }
        Twin.refused("8 locked", 10, 0, Vaults::locked, ShareVault::closeVault);
        Twin.refused("8 closed again", 10, 0, RefusalTest::openedAndClosed, ShareVault::closeVault);
        Twin.refused("8 no key", 10, 0, () -> Vaults.sealed(1, 1, 0), ShareVault::closeVault);
        taken("8 open without a key", openWith(0), ShareVault::closeVault, 0);
    }

    /** Each vault has a later reason too, so that the order of the reasons is told. */
    private static void orderOfReasons() {
        Twin.refused("7 3 before 8 and 9", 3, 0, () -> Vaults.withHolders(3), ShareVault::openVault);
        Twin.refused("7 6 before 8", 6, 0, () -> openWith(0), ShareVault::openVault);
        Twin.refused("7 6 before 9", 6, 1, () -> withoutGuards(openWith(1)), ShareVault::openVault);
        Twin.refused("7 6 before 8 and 9", 6, 0, () -> withoutGuards(openWith(0)), ShareVault::openVault);
        Twin.refused("7 7 before 8", 7, 6, () -> withoutKeys(Vaults.locked()), ShareVault::openVault);
        Twin.refused("7 7 before 9", 7, 2, () -> withoutGuards(Vaults.locked()), ShareVault::openVault);
        Twin.refused("7 7 before 8 and 9", 7, 1, () -> withoutKeys(lockedFor(5)), ShareVault::openVault);
        Twin.refused("7 8 before 9", 8, 1, () -> withoutKeys(lockedFor(6)), ShareVault::openVault);
        Twin.refused("7 9 at last", 9, 1, () -> lockedFor(6), ShareVault::openVault);
        Twin.refused("8 3 before 10", 3, 0, () -> Vaults.withHolders(1), ShareVault::closeVault);
        Twin.refused("6 3 before 5", 3, 0, () -> Vaults.withHolders(1), vault -> vault.takeBack(0));
    }

    private static ShareVault withoutGuards(ShareVault vault) {
        vault.passHours(4);
        Check.due("the guard has gone", vault.zoneOf(0), 1);
        return vault;
    }

    private static ShareVault withoutKeys(ShareVault vault) {
        vault.takeBack(0);
        return vault;
    }

    private static void otherExceptionsFirst() {
        Vaults.Maker one = () -> Vaults.withHolders(1);
        Twin.throwsOnly("3 range before 2", Check.ARGUMENT, one, vault -> vault.seal(97, 0, 0, 3));
        Twin.throwsOnly("3 range before 2", Check.ARGUMENT, one, vault -> vault.seal(0, -1, 0, 3));
        Twin.throwsOnly("3 range before 2", Check.ARGUMENT, one, vault -> vault.seal(0, 0, 97, 2));
        Twin.throwsOnly("3 threshold before 2", Check.ARGUMENT, one, vault -> vault.seal(0, 0, 0, 4));
        Twin.throwsOnly("3 range without holders", Check.ARGUMENT, ShareVault::new, vault -> vault.seal(0, 0, 0, 0));
        Twin.throwsOnly("4 holder before share and 3", Check.INDEX, one, vault -> vault.setShare(1, 97));
        Vaults.Maker given = () -> Vaults.sealed(1, 1, 1);
        Twin.throwsOnly("4 holder before share", Check.INDEX, given, vault -> vault.setShare(-1, -1));
        Twin.throwsOnly("4 holder before 3", Check.INDEX, one, vault -> vault.setShare(1, 0));
        Twin.throwsOnly("4 share before 3", Check.ARGUMENT, one, vault -> vault.setShare(0, 97));
        Twin.throwsOnly("5 holder before 3", Check.INDEX, one, vault -> vault.present(1));
        Twin.throwsOnly("6 holder before 3", Check.INDEX, one, vault -> vault.takeBack(1));
        Twin.throwsOnly("6 holder before 5", Check.INDEX, () -> Vaults.sealed(1, 1, 0), vault -> vault.takeBack(1));
        Vaults.Maker guards = () -> Vaults.withGuards(0, 1, 2);
        Twin.throwsOnly("9 zone before 1", Check.ARGUMENT, guards, vault -> vault.addGuard(8, true, 1));
        Twin.throwsOnly("9 period before 1", Check.ARGUMENT, guards, vault -> vault.addGuard(0, true, 5));
        Twin.throwsOnly("17 holder first", Check.INDEX, one, vault -> vault.share(1));
        Twin.throwsOnly("18 holder first", Check.INDEX, one, vault -> vault.isCorrect(-1));
        Twin.throwsOnly("17 not sealed", Check.NO_ELEMENT, one, vault -> vault.share(0));
        Twin.throwsOnly("18 not sealed", Check.NO_ELEMENT, one, vault -> vault.isCorrect(0));
        Twin.throwsOnly("24 position first", Check.ARGUMENT, one, vault -> vault.toldValue(97));
        Vaults.Maker few = () -> Vaults.sealed(2, 2, 1);
        Twin.throwsOnly("24 position first", Check.ARGUMENT, few, vault -> vault.toldValue(-1));
        Twin.throwsOnly("36 zone first", Check.ARGUMENT, one, vault -> vault.hoursUntilVisit(8));
        Twin.throwsOnly("37 zone first", Check.ARGUMENT, one, vault -> vault.hoursUntilVisitByRemainders(-1));
        Twin.throwsOnly("36 no guards", Check.NO_ELEMENT, one, vault -> vault.hoursUntilVisit(7));
        Twin.throwsOnly("37 no guards", Check.NO_ELEMENT, one, vault -> vault.hoursUntilVisitByRemainders(7));
        Twin.throwsOnly("48 zone first", Check.ARGUMENT, one, vault -> vault.alarmShare(8));
        Twin.throwsOnly("48 no alarm", Check.ARITHMETIC, one, vault -> vault.alarmShare(7));
        Twin.malformed("give 1;holder;", 14, one);
        Twin.malformed("give 0;open;x", 12, one);
    }

    private static void causes() {
        Twin.failing("holder", 0, 1, () -> Vaults.withHolders(8));
        Twin.failing("guard 0+1", 0, 1, () -> Vaults.withGuards(1, 2, 3));
        Twin.failing("seal 0 0 0 3", 0, 2, () -> Vaults.withHolders(2));
        Twin.failing("share 0 0", 0, 3, () -> Vaults.withHolders(1));
        Twin.failing("give 0", 0, 3, () -> Vaults.withHolders(1));
        Twin.failing("back 0", 0, 3, () -> Vaults.withHolders(1));
        Twin.failing("open", 0, 3, ShareVault::new);
        Twin.failing("close", 0, 3, ShareVault::new);
        Twin.failing("give 7", 0, 4, () -> Vaults.sealed(8, 3, 8));
        Twin.failing("back 7", 0, 5, () -> Vaults.sealed(8, 3, 7));
        Twin.failing("open", 0, 6, () -> Vaults.opened(3, 3, 3));
        Twin.failing("open", 0, 7, Vaults::locked);
        Twin.failing("open", 0, 8, () -> Vaults.guarded(3, 3, 2));
        Twin.failing("open", 0, 9, () -> Vaults.sealed(3, 3, 3));
        Twin.failing("close", 0, 10, () -> Vaults.failed(2));
    }

    private static void otherCauses() {
        Vaults.Maker maker = () -> Vaults.guarded(2, 1, 1);
        String[] texts = {"seal 97 0 0 1", "seal 0 97 0 1", "seal 0 0 97 1", "seal 0 0 0 0", "seal 0 0 0 4",
            "share 2 0", "share 9 99", "share 0 97", "give 2", "give 9", "back 2", "back 9", "guard 8+1", "guard 9-1",
            "guard 0+0", "guard 0+5", "guard 0-9", "turn 1", "turn 9", "hum 8 1", "hum 9 9", "hum 0 0", "wait 0",
            "wait 00", "wait 25", "wait 99"};
        for (String text : texts) {
            Twin.failing(text, 0, 12, maker);
        }
        String[] taken = {"seal 96 0 0 1", "seal 0 96 0 1", "seal 0 0 96 1", "seal 0 0 0 2", "share 1 96",
            "share 0 00", "give 1", "back 0", "guard 7+1", "guard 0-4", "turn 0", "hum 7 1", "hum 0 9", "wait 1",
            "wait 01", "wait 24"};
        for (String text : taken) {
            taken("54 " + text, Vaults.fed(maker.make(), text), ShareVault::runCommands, 1);
        }
        for (int attempts = 0; attempts < 3; attempts++) {
            int failures = attempts;
            Twin.failing("open", 0, 12, () -> Vaults.failed(failures));
        }
        Twin.failing("open", 0, 7, () -> Vaults.failed(3));
        // The other exception comes before the reason that would be a cause.
        Twin.failing("seal 97 0 0 3", 0, 12, () -> Vaults.withHolders(1));
        Twin.failing("share 0 97", 0, 12, () -> Vaults.withHolders(1));
        Twin.failing("guard 8+1", 0, 12, () -> Vaults.withGuards(0, 0, 0));
        Twin.failing("give 0", 0, 12, ShareVault::new);
    }

    private static void indexOfTheCommand() {
        for (int index = 0; index < 8; index++) {
            int holders = 8 - index;
            // So many holders come before the one that is too many; those after it are not reached.
            Twin.failing("holder;".repeat(7) + "holder", index, 1, () -> Vaults.withHolders(holders));
        }
        Twin.failing("wait;".repeat(11) + "open", 11, 3, ShareVault::new);
        Twin.failing("close;".repeat(9) + "close", 0, 3, ShareVault::new);
        Twin.failing("holder;seal 1 0 0 1;guard 0+1;give 0;open;close;close", 6, 10, ShareVault::new);
        Twin.failing("share 0 1;open;open", 1, 12, () -> Vaults.guarded(1, 1, 1));
    }

    private static void latestRefusal() {
        ShareVault vault = new ShareVault();
        Check.due("50 to 52 none", Twin.refusalOf(vault),
            "NoSuchElementException NoSuchElementException NoSuchElementException");
        Check.outcomeOf(() -> vault.present(0));
        Check.outcomeOf(() -> Check.run(vault, "holder;"));
        Check.due("50 to 52 still none", Twin.refusalOf(vault),
            "NoSuchElementException NoSuchElementException NoSuchElementException");
        Check.outcomeOf(vault::openVault);
        Check.due("50 to 52 first", Twin.refusalOf(vault), "3 0 NoSuchElementException");
        Check.run(vault, "holder;holder;seal 1 0 0 2");
        Check.due("50 to 52 kept", Twin.refusalOf(vault), "3 0 NoSuchElementException");
        Check.outcomeOf(() -> Check.run(vault, "give 0;give 1;give 0"));
        Check.due("50 to 52 with a cause", Twin.refusalOf(vault), "11 2 4");
        Check.outcomeOf(() -> vault.takeBack(1));
        Check.due("50 to 52 without a cause", Twin.refusalOf(vault), "5 1 NoSuchElementException");
        vault.save();
        Check.outcomeOf(vault::closeVault);
        vault.undo();
        vault.restore();
        Check.due("50 to 52 neither undone nor restored", Twin.refusalOf(vault), "10 0 NoSuchElementException");
    }
}

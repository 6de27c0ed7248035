/** The edges of holders, of the seal, of sums and products modulo 97, of keys, and of opening. */
public final class KeysTest {
    private static final int[] CORNERS = {0, 1, 48, 49, 95, 96};

    private KeysTest() {
    }

    public static void main(String[] args) {
        noHolder();
        eighthAndNinthHolder();
        lateHolders();
        numbersThatCount();
        sharesModulo97();
        sharesAroundTheModulus();
        changedShares();
        toldByEachPair();
        toldByEachTriple();
        toldByTheFirstKeys();
        noKeyThresholdAndAll();
        agreeing();
        agreeingAfterOtherThresholds();
        keysAreTheSharesOfLater();
        openingByKeys();
        thirdFailedAttempt();
        whatForgetsFailedAttempts();
        sixLockedHours();
        sealedAnew();
        closing();
        Check.end();
    }

    private static int valueOf(int[] polynomial, int position) {
        long value = polynomial[0] + (long) polynomial[1] * position + (long) polynomial[2] * position * position;
        return (int) (value % 97);
    }

    private static ShareVault sealedWith(int holders, int[] polynomial, int threshold) {
        ShareVault vault = Vaults.withHolders(holders);
        vault.seal(polynomial[0], polynomial[1], polynomial[2], threshold);
        return vault;
    }

    private static void noHolder() {
        ShareVault vault = new ShareVault();
        Check.due("14 none", vault.holderCount(), 0);
        Check.due("20 none", vault.presentedCount(), 0);
        Check.throwsOnly("17 none", vault, Check.INDEX, () -> vault.share(0));
        Check.throwsOnly("18 none", vault, Check.INDEX, () -> vault.isCorrect(0));
        Check.throwsOnly("19 none", vault, Check.INDEX, () -> vault.isPresented(0));
        Check.throwsOnly("21 none", vault, Check.NO_ELEMENT, () -> vault.presentedAt(0));
        Check.due("61 none", vault.save(), 0);
        Check.due("62 none", vault.restore(), 0);
        for (int threshold = 1; threshold <= 3; threshold++) {
            int needed = threshold;
            Check.refused("3 none", vault, 2, 0, () -> vault.seal(0, 0, 0, needed));
        }
    }

    private static void eighthAndNinthHolder() {
        ShareVault vault = Vaults.withHolders(7);
        Check.due("14 seven", vault.holderCount(), 7);
        Check.due("2 eighth", vault.addHolder(), 7);
        Check.due("14 eight", vault.holderCount(), 8);
        Check.refused("2 ninth", vault, 1, 8, vault::addHolder);
        Check.due("14 still eight", vault.holderCount(), 8);
        Check.due("3 eight", vault.seal(96, 95, 94, 3), 8);
        Check.due("17 eighth", vault.share(7), valueOf(new int[] {96, 95, 94}, 8));
        Check.due("5 eighth", vault.present(7), 1);
        Check.due("61 eight", vault.save(), 8);
        vault.undo();
        vault.undo();
        vault.undo();
        Check.due("2 eighth again", vault.addHolder(), 7);
        Check.due("62 eight", vault.restore(), 8);
        Check.refused("2 ninth after restoring", vault, 1, 8, vault::addHolder);
        ShareVault text = new ShareVault();
        Check.run(text, "holder;holder;holder;holder;holder;holder;holder");
        Check.due("54 eighth", Check.run(text, "holder"), 1);
        Check.due("54 eight", text.holderCount(), 8);
    }

    /** A holder that is added later has the share of its position, whatever became of the others. */
    private static void lateHolders() {
        int[][] polynomials = {{42, 0, 0}, {42, 5, 0}, {42, 5, 7}};
        for (int threshold = 1; threshold <= 3; threshold++) {
            ShareVault vault = Vaults.sealed(threshold, threshold, threshold);
            for (int holder = 0; holder < threshold; holder++) {
                vault.setShare(holder, 96);
            }
            for (int holder = threshold; holder < 8; holder++) {
                Check.due("2 late index", vault.addHolder(), holder);
                Check.due("2 late share", vault.share(holder), valueOf(polynomials[threshold - 1], holder + 1));
                Check.due("2 late is correct", vault.isCorrect(holder), true);
                Check.due("2 late is not presented", vault.isPresented(holder), false);
                Check.due("2 late presents nothing", vault.presentedCount(), threshold);
            }
        }
        ShareVault open = Vaults.opened(1, 1, 1);
        open.addHolder();
        Check.due("2 late, open", open.share(1), 42);
        ShareVault locked = Vaults.locked();
        locked.addHolder();
        Check.due("2 late, locked", locked.share(1), 42);
        ShareVault before = Vaults.withHolders(2);
        before.seal(1, 1, 1, 1);
        before.undo();
        before.addHolder();
        before.seal(9, 8, 7, 3);
        Check.due("2 before the seal", before.share(2), valueOf(new int[] {9, 8, 7}, 3));
        Check.due("2 before the seal is correct", before.isCorrect(0), true);
    }

    /** The first number counts 0 for the threshold 1, the second for less than 3. */
    private static void numbersThatCount() {
        for (int holder = 0; holder < 8; holder++) {
            int at = holder + 1;
            int[] all = {96, 96, 96};
            Check.due("3 threshold 1", sealedWith(8, all, 1).share(holder), 96);
            Check.due("3 threshold 2", sealedWith(8, all, 2).share(holder), (96 + 96 * at) % 97);
            Check.due("3 threshold 3", sealedWith(8, all, 3).share(holder), (96 + 96 * at + 96 * at * at) % 97);
            Check.due("3 zeros", sealedWith(8, new int[] {0, 0, 0}, 3).share(holder), 0);
        }
        ShareVault vault = Vaults.withHolders(3);
        vault.seal(1, 2, 3, 3);
        vault.seal(1, 2, 3, 2);
        Check.due("3 2 after 3", vault.share(2), 7);
        vault.seal(1, 2, 3, 1);
        Check.due("3 1 after 2", vault.share(2), 1);
        vault.seal(1, 2, 3, 3);
        Check.due("3 3 after 1", vault.share(2), 34);
    }

    private static void sharesModulo97() {
        for (int secret : CORNERS) {
            for (int first : CORNERS) {
                for (int second : CORNERS) {
                    int[] polynomial = {secret, first, second};
                    ShareVault vault = sealedWith(8, polynomial, 3);
                    for (int holder = 0; holder < 8; holder++) {
                        Check.due("3 share", vault.share(holder), valueOf(polynomial, holder + 1));
                    }
                    vault.present(7);
                    vault.present(0);
                    vault.present(4);
                    for (int position = 0; position < 97; position++) {
                        Check.due("24 value", vault.toldValue(position), valueOf(polynomial, position));
                    }
                }
            }
        }
    }

    /** Sums and products of 96, 97 and 98. */
    private static void sharesAroundTheModulus() {
        Check.due("sum 96", sealedWith(2, new int[] {95, 1, 0}, 2).share(0), 96);
        Check.due("sum 97", sealedWith(2, new int[] {96, 1, 0}, 2).share(0), 0);
        Check.due("sum 98", sealedWith(2, new int[] {96, 2, 0}, 2).share(0), 1);
        Check.due("product 96", sealedWith(2, new int[] {0, 48, 0}, 2).share(1), 96);
        Check.due("product 98", sealedWith(2, new int[] {0, 49, 0}, 2).share(1), 1);
        Check.due("square 98", sealedWith(7, new int[] {0, 0, 2}, 3).share(6), 1);
        Check.due("sum 194", sealedWith(3, new int[] {96, 96, 2}, 3).share(0), 0);
        // The line through (1, 0) and (2, 96) has the value 1 at 0, and 2 at 96; the one through (1, 0) and (2, 1), 96.
        Check.due("told 1", toldByLine(0, 96), 1);
        Check.due("told 96", toldByLine(0, 1), 96);
        Check.due("told 0", toldByLine(48, 96), 0);
        Check.due("told 95", toldByLine(96, 0), 95);
        Check.due("told greatest shares", toldByLine(96, 96), 96);
    }

    private static int toldByLine(int first, int second) {
        ShareVault vault = Vaults.sealed(2, 2, 2);
        vault.setShare(0, first);
        vault.setShare(1, second);
        Check.due("23 the same", vault.toldSecretByElimination(), vault.toldSecret());
        Check.due("24 at 0", vault.toldValue(0), vault.toldSecret());
        Check.due("24 at 1", vault.toldValue(1), first);
        Check.due("24 at 2", vault.toldValue(2), second);
        Check.due("24 at 96", vault.toldValue(96), (2 * vault.toldSecret() + 97 - first) % 97);
        return vault.toldSecret();
    }

    private static void changedShares() {
        ShareVault vault = Vaults.sealed(8, 3, 0);
        Check.due("4 first holder", vault.setShare(0, 0), 54);
        Check.due("4 last holder", vault.setShare(7, 96), 45);
        Check.due("4 least", vault.share(0), 0);
        Check.due("4 greatest", vault.share(7), 96);
        Check.due("18 least is wrong", vault.isCorrect(0), false);
        Check.due("18 one off", vault.isCorrect(1), true);
        Check.due("4 one above", vault.setShare(1, 81), 80);
        Check.due("18 one above", vault.isCorrect(1), false);
        Check.due("4 one below", vault.setShare(1, 79), 81);
        Check.due("18 one below", vault.isCorrect(1), false);
        Check.due("4 the same", vault.setShare(1, 79), 79);
        vault.setShare(1, 80);
        Check.due("18 again", vault.isCorrect(1), true);
    }

    private static void toldByEachPair() {
        for (int first = 0; first < 8; first++) {
            for (int second = 0; second < 8; second++) {
                if (first != second) {
                    toldBy(new int[] {96, 95, 0}, first, second);
                    toldBy(new int[] {1, 13, 0}, first, second);
                }
            }
        }
    }

    private static void toldByEachTriple() {
        for (int first = 0; first < 8; first++) {
            for (int second = 0; second < 8; second++) {
                for (int third = 0; third < 8; third++) {
                    if (first != second && first != third && second != third) {
                        toldBy(new int[] {96, 95, 94}, first, second, third);
                        toldBy(new int[] {0, 1, 60}, first, second, third);
                    }
                }
            }
        }
    }

    private static void toldBy(int[] polynomial, int... holders) {
        ShareVault vault = sealedWith(8, polynomial, holders.length);
        for (int holder : holders) {
            vault.present(holder);
        }
        Check.due("22", vault.toldSecret(), polynomial[0]);
        Check.due("23", vault.toldSecretByElimination(), polynomial[0]);
        Check.due("25", vault.doAgree(), true);
        for (int position : new int[] {0, 1, holders[0] + 1, 50, 95, 96}) {
            Check.due("24", vault.toldValue(position), valueOf(polynomial, position));
        }
    }

    /** Only the keys that were presented first tell, as many as the threshold says. */
    private static void toldByTheFirstKeys() {
        for (int threshold = 1; threshold <= 3; threshold++) {
            ShareVault vault = Vaults.sealed(8, threshold, 0);
            for (int holder = 7; holder >= 0; holder--) {
                vault.present(holder);
            }
            int lastTelling = 8 - threshold;
            vault.setShare(lastTelling - 1, (vault.share(lastTelling - 1) + 1) % 97);
            Check.due("22 the next key", vault.toldSecret(), 42);
            Check.due("23 the next key", vault.toldSecretByElimination(), 42);
            vault.setShare(lastTelling, (vault.share(lastTelling) + 1) % 97);
            Check.due("22 the last telling key", vault.toldSecret() == 42, false);
            Check.due("23 the last telling key", vault.toldSecretByElimination(), vault.toldSecret());
            vault.takeBack(lastTelling);
            vault.takeBack(lastTelling - 1);
            Check.due("22 others move up", vault.toldSecret(), 42);
            Check.due("23 others move up", vault.toldSecretByElimination(), 42);
        }
    }

    private static void noKeyThresholdAndAll() {
        for (int threshold = 1; threshold <= 3; threshold++) {
            int needed = threshold;
            for (int presented = 0; presented <= 8; presented++) {
                int keys = presented;
                if (presented < threshold) {
                    tooFew(() -> Vaults.sealed(8, needed, keys));
                } else {
                    ShareVault vault = Vaults.sealed(8, threshold, presented);
                    Check.due("20", vault.presentedCount(), presented);
                    Check.due("22", vault.toldSecret(), 42);
                    Check.due("23", vault.toldSecretByElimination(), 42);
                    Check.due("24", vault.toldValue(1), vault.share(0));
                    agreeing("all correct", vault, true, presented);
                }
            }
        }
        tooFew(() -> Vaults.withHolders(8));
        tooFew(ShareVault::new);
    }

    private static void tooFew(Vaults.Maker maker) {
        Twin.throwsOnly("22 too few", Check.NO_ELEMENT, maker, ShareVault::toldSecret);
        Twin.throwsOnly("23 too few", Check.NO_ELEMENT, maker, ShareVault::toldSecretByElimination);
        Twin.throwsOnly("24 too few", Check.NO_ELEMENT, maker, vault -> vault.toldValue(0));
        Twin.throwsOnly("24 too few", Check.NO_ELEMENT, maker, vault -> vault.toldValue(96));
        Twin.throwsOnly("25 too few", Check.NO_ELEMENT, maker, ShareVault::doAgree);
        Twin.throwsOnly("26 too few", Check.NO_ELEMENT, maker, ShareVault::mostAgreeing);
        Twin.throwsOnly("27 too few", Check.NO_ELEMENT, maker, ShareVault::mostAgreeingBySets);
        Check.due("49 too few", maker.make().isConsistent(), true);
    }

    private static void agreeing(String what, ShareVault vault, boolean all, int most) {
        Check.due("25 " + what, vault.doAgree(), all);
        Check.due("26 " + what, vault.mostAgreeing(), most);
        Check.due("27 " + what, vault.mostAgreeingBySets(), most);
        Check.due("49 " + what, vault.isConsistent(), true);
    }

    private static void agreeing() {
        for (int threshold = 1; threshold <= 3; threshold++) {
            ShareVault exact = Vaults.sealed(8, threshold, threshold);
            exact.setShare(threshold - 1, 0);
            agreeing("as many as the threshold always agree", exact, true, threshold);
            for (int holder = 0; holder < 8; holder++) {
                ShareVault vault = Vaults.sealed(8, threshold, 8);
                vault.setShare(holder, (vault.share(holder) + 1) % 97);
                agreeing("one of eight off", vault, false, 7);
                vault.takeBack(holder);
                agreeing("the one off taken back", vault, true, 7);
            }
        }
        ShareVault different = Vaults.sealed(8, 1, 8);
        for (int holder = 0; holder < 8; holder++) {
            different.setShare(holder, 89 + holder);
        }
        agreeing("none agrees with another", different, false, 1);
        different.setShare(7, 89);
        agreeing("the first and the last", different, false, 2);
        ShareVault squares = Vaults.sealed(8, 2, 8);
        for (int holder = 0; holder < 8; holder++) {
            squares.setShare(holder, (holder + 1) * (holder + 1) % 97);
        }
        agreeing("no three squares on a line", squares, false, 2);
        ShareVault cubes = Vaults.sealed(4, 3, 4);
        for (int holder = 0; holder < 4; holder++) {
            cubes.setShare(holder, (holder + 1) * (holder + 1) * (holder + 1) % 97);
        }
        agreeing("no four cubes on a square curve", cubes, false, 3);
        ShareVault last = Vaults.sealed(8, 2, 8);
        last.setShare(0, 0);
        last.setShare(1, 0);
        last.setShare(2, 0);
        agreeing("the last five, and three on another line", last, false, 5);
    }

    /** What was found for one threshold must not tell for another. */
    private static void agreeingAfterOtherThresholds() {
        for (int order : new int[] {321, 312, 213, 231, 132, 123}) {
            ShareVault vault = Vaults.withHolders(8);
            for (int digits = order; digits > 0; digits /= 10) {
                int threshold = digits % 10;
                vault.seal(42, 5, 7, threshold);
                for (int holder = 0; holder < 8; holder++) {
                    vault.present(holder);
                }
                agreeing("anew", vault, true, 8);
                Check.due("23 anew", vault.toldSecretByElimination(), 42);
                vault.setShare(7, 0);
                agreeing("anew, one off", vault, false, 7);
            }
        }
    }

    private static void keysAreTheSharesOfLater() {
        ShareVault vault = Vaults.guarded(3, 2, 2);
        vault.setShare(0, 0);
        Check.due("22 changed after presenting", vault.toldSecret(), 45);
        Check.due("7 changed after presenting", vault.openVault(), false);
        vault.setShare(0, 47);
        Check.due("22 changed back", vault.toldSecret(), 42);
        Check.due("7 changed back", vault.openVault(), true);
        vault.setShare(1, 0);
        Check.due("28 stays open", vault.isOpen(), true);
        Check.due("22 changed while open", vault.toldSecret() == 42, false);
    }

    private static void openingByKeys() {
        for (int threshold = 1; threshold <= 3; threshold++) {
            for (int presented = threshold; presented <= 8; presented++) {
                Check.due("7 all correct", Vaults.guarded(8, threshold, presented).openVault(), true);
                for (int holder = 0; holder < presented; holder++) {
                    ShareVault vault = Vaults.guarded(8, threshold, presented);
                    vault.setShare(holder, (vault.share(holder) + 1) % 97);
                    Check.due("7 one is off", vault.openVault(), false);
                    Check.due("7 one is off", Check.logOf(vault), "0f" + presented);
                    Check.due("42 one is off", vault.openingCount(), 0);
                }
            }
        }
        ShareVault outside = Vaults.guarded(8, 2, 7);
        outside.setShare(7, 0);
        Check.due("7 a share that is not presented is off", outside.openVault(), true);
        Check.due("42 one", outside.openingCount(), 1);
        Check.due("25 after opening", outside.doAgree(), true);
    }

    private static void thirdFailedAttempt() {
        for (int attempts = 0; attempts < 3; attempts++) {
            ShareVault vault = Vaults.failed(attempts);
            Check.due("30 counted", vault.failedAttempts(), attempts);
            Check.due("29 not locked", vault.lockedHours(), 0);
            Check.due("43 entries", vault.logCount(), attempts);
        }
        ShareVault vault = Vaults.failed(3);
        Check.due("30 after the third", vault.failedAttempts(), 0);
        Check.due("29 after the third", vault.lockedHours(), 6);
        Check.due("28 after the third", vault.isOpen(), false);
        Check.due("43 after the third", Check.logOf(vault), "0f1 0f1 0f1");
    }

    private static void whatForgetsFailedAttempts() {
        ShareVault opened = Vaults.failed(2);
        opened.setShare(0, 42);
        Check.due("7 third attempt opens", opened.openVault(), true);
        Check.due("30 opened", opened.failedAttempts(), 0);
        opened.closeVault();
        opened.setShare(0, 41);
        opened.present(0);
        failTwiceThenLock(opened);
        ShareVault sealed = Vaults.failed(2);
        sealed.seal(42, 0, 0, 1);
        sealed.setShare(0, 41);
        sealed.present(0);
        failTwiceThenLock(sealed);
        ShareVault hours = Vaults.failed(3);
        hours.passHours(6);
        hours.addGuard(0, true, 4);
        failTwiceThenLock(hours);
        ShareVault kept = Vaults.failed(2);
        Check.outcomeOf(kept::closeVault);
        kept.takeBack(0);
        Check.outcomeOf(kept::openVault);
        kept.present(0);
        kept.addHolder();
        kept.passHours(3);
        Check.due("30 refused attempts and others count nothing", kept.failedAttempts(), 2);
        kept.openVault();
        Check.due("29 third of all", kept.lockedHours(), 6);
    }

    private static void failTwiceThenLock(ShareVault vault) {
        for (int attempts = 1; attempts < 3; attempts++) {
            Check.due("7 fails", vault.openVault(), false);
            Check.due("30 counted anew", vault.failedAttempts(), attempts);
            Check.due("29 not locked yet", vault.lockedHours(), 0);
        }
        Check.due("7 third fails", vault.openVault(), false);
        Check.due("29 locked anew", vault.lockedHours(), 6);
    }

    private static void sixLockedHours() {
        ShareVault vault = Vaults.locked();
        for (int hours = 6; hours > 0; hours--) {
            Check.due("29 hours", vault.lockedHours(), hours);
            Check.refused("7 locked", vault, 7, hours, vault::openVault);
            vault.passHours(1);
        }
        Check.due("29 over", vault.lockedHours(), 0);
        vault.passHours(1);
        Check.due("29 not below 0", vault.lockedHours(), 0);
        int[] hours = {1, 5, 6, 7, 24};
        int[] left = {5, 1, 0, 0, 0};
        for (int index = 0; index < hours.length; index++) {
            ShareVault at = Vaults.locked();
            at.passHours(hours[index]);
            Check.due("29 after hours at once", at.lockedHours(), left[index]);
        }
    }

    private static void sealedAnew() {
        ShareVault vault = Vaults.opened(3, 2, 3);
        vault.hum(7, 9);
        String zones = Check.zonesOf(vault);
        Check.due("3 anew", vault.seal(9, 1, 1, 1), 3);
        Check.due("28 closed", vault.isOpen(), false);
        Check.due("20 no keys", vault.presentedCount(), 0);
        Check.due("19 no keys", vault.isPresented(0) || vault.isPresented(1) || vault.isPresented(2), false);
        Check.due("16 anew", vault.threshold(), 1);
        Check.due("42 stays", vault.openingCount(), 1);
        Check.due("43 no entry", Check.logOf(vault), "0o3");
        Check.due("56 zones stay", Check.zonesOf(vault), zones);
        ShareVault locked = Vaults.locked();
        locked.seal(9, 1, 1, 1);
        Check.due("29 not locked", locked.lockedHours(), 0);
        locked.present(0);
        Check.due("7 opens at once", locked.openVault(), true);
        ShareVault changed = Vaults.sealed(2, 1, 0);
        changed.setShare(1, 0);
        changed.seal(42, 5, 7, 1);
        Check.due("18 correct again", changed.isCorrect(1), true);
        Check.due("17 anew", changed.share(1), 42);
    }

    private static void closing() {
        for (int presented = 0; presented <= 8; presented++) {
            ShareVault vault = Vaults.opened(8, 1, 1);
            vault.takeBack(0);
            for (int holder = 0; holder < presented; holder++) {
                vault.present(holder);
            }
            Check.due("8 keys", vault.closeVault(), presented);
            Check.due("8 closed", vault.isOpen(), false);
            Check.due("8 keys taken back", vault.presentedCount(), 0);
            Check.due("8 key taken back", vault.isPresented(0), false);
            Check.due("8 no place", Check.outcomeOf(() -> vault.presentedAt(0)), "NoSuchElementException");
            Check.due("8 entry", Check.logOf(vault), "0o1 0c0");
            Check.due("15 still sealed", vault.isSealed(), true);
            Check.due("5 again", vault.present(0), 1);
        }
    }
}

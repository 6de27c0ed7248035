/** Vaults in the states with which tests begin. */
final class Vaults {
    /** A call, or some, on a vault. */
    interface Step {
        Object take(ShareVault vault);
    }

    interface Maker {
        ShareVault make();
    }

    private Vaults() {
    }

    static ShareVault withHolders(int count) {
        ShareVault vault = new ShareVault();
        for (int holder = 0; holder < count; holder++) {
            vault.addHolder();
        }
        return vault;
    }

    /** Guards that walk forwards every fourth hour, one in each of the zones. */
    static ShareVault withGuards(int... zones) {
        ShareVault vault = new ShareVault();
        for (int zone : zones) {
            vault.addGuard(zone, true, 4);
        }
        return vault;
    }

    /** Sealed with 42 + 5x + 7xx: the shares are 54, 80, 23, 77, 48 .. , or on 42 + 5x 47, 52, 57, 62 .. . */
    static ShareVault sealed(int holders, int threshold, int presented) {
        ShareVault vault = withHolders(holders);
        vault.seal(42, 5, 7, threshold);
        for (int holder = 0; holder < presented; holder++) {
            vault.present(holder);
        }
        return vault;
    }

    /** With a guard in the zone 0, who walks forwards every fourth hour. */
    static ShareVault guarded(int holders, int threshold, int presented) {
        ShareVault vault = sealed(holders, threshold, presented);
        vault.addGuard(0, true, 4);
        return vault;
    }

    static ShareVault opened(int holders, int threshold, int presented) {
        ShareVault vault = guarded(holders, threshold, presented);
        Check.due("opened", vault.openVault(), true);
        return vault;
    }

    /** A vault with the threshold 1 and one presented key, which is wrong, after so many attempts. */
    static ShareVault failed(int attempts) {
        ShareVault vault = guarded(1, 1, 1);
        vault.setShare(0, 0);
        for (int attempt = 0; attempt < attempts; attempt++) {
            Check.due("failed", vault.openVault(), false);
        }
        return vault;
    }

    static ShareVault locked() {
        return failed(3);
    }

    /** With so many log entries, alarms in the zones 0 to 7 and from 0 again, one each hour. */
    static ShareVault withEntries(int count) {
        ShareVault vault = new ShareVault();
        for (int entry = 0; entry < count; entry++) {
            vault.hum(entry % 8, 5);
            vault.passHours(1);
        }
        return vault;
    }

    static ShareVault fed(ShareVault vault, String text) {
        Check.feedAll(vault, text);
        return vault;
    }
}

/**
 * Calls that throw, on one of two vaults that were made alike: afterwards nothing that can be asked, undone,
 * restored or fed tells the two apart, but for what the document says that the call leaves behind.
 */
final class Twin {
    private Twin() {
    }

    static void throwsOnly(String what, Class<?> want, Vaults.Maker maker, Vaults.Step step) {
        ShareVault called = busy(maker.make());
        ShareVault other = busy(maker.make());
        Check.due(what, Check.outcomeOf(() -> step.take(called)), want.getSimpleName());
        Check.due(what + " is no refusal", refusalOf(called), refusalOf(other));
        Check.due(what + " leaves the error position", errorOf(called), errorOf(other));
        Check.due(what + " leaves all", lifeOf(called), lifeOf(other));
    }

    static void refused(String what, int reason, int detail, Vaults.Maker maker, Vaults.Step step) {
        ShareVault called = busy(maker.make());
        ShareVault other = busy(maker.make());
        Check.due(what, Check.outcomeOf(() -> step.take(called)), "UnsupportedOperationException");
        Check.due(what + " is told", refusalOf(called), reason + " " + detail + " NoSuchElementException");
        Check.due(what + " leaves the error position", errorOf(called), errorOf(other));
        Check.due(what + " leaves all", lifeOf(called), lifeOf(other));
    }

    /** A text with a command that fails; the input buffer is empty afterwards. */
    static void failing(String text, int command, int cause, Vaults.Maker maker) {
        ShareVault called = Vaults.fed(busyButFed(maker.make()), text);
        ShareVault other = busyButFed(maker.make());
        Check.due(text, Check.outcomeOf(called::runCommands), "UnsupportedOperationException");
        Check.due(text + " is told", refusalOf(called), "11 " + command + " " + cause);
        Check.due(text + " leaves the error position", errorOf(called), errorOf(other));
        Check.due(text + " leaves all", lifeOf(called), lifeOf(other));
    }

    /** A text that is malformed; the input buffer is empty afterwards. */
    static void malformed(String text, int position, Vaults.Maker maker) {
        ShareVault called = Vaults.fed(busyButFed(maker.make()), text);
        ShareVault other = busyButFed(maker.make());
        Check.due(text, Check.outcomeOf(called::runCommands), "IllegalArgumentException");
        Check.due(text + " is no refusal", refusalOf(called), refusalOf(other));
        Check.due(text + " ends at", errorOf(called), "" + position);
        Check.due(text + " leaves all", lifeOf(called), lifeOf(other));
    }

    /** With something in all that is kept beside the state, and a saved state that is another. */
    private static ShareVault busy(ShareVault vault) {
        return Vaults.fed(busyButFed(vault), "wait 9");
    }

    private static ShareVault busyButFed(ShareVault vault) {
        vault.save();
        vault.hum(3, 1);
        vault.writeZones();
        Check.due("busy", Check.outcomeOf(() -> Check.run(vault, "turn 9")), "UnsupportedOperationException");
        Check.due("busy", Check.outcomeOf(() -> Check.run(vault, "wait x")), "IllegalArgumentException");
        return vault;
    }

    static String refusalOf(ShareVault vault) {
        return Check.outcomeOf(vault::refusalReason) + " " + Check.outcomeOf(vault::refusalDetail) + " "
            + Check.outcomeOf(vault::refusalCause);
    }

    private static String errorOf(ShareVault vault) {
        return Check.outcomeOf(vault::errorPosition);
    }

    /** All but the refusal and the error position; the vault is used up by it. */
    private static String lifeOf(ShareVault vault) {
        StringBuilder life = new StringBuilder(Check.stateOf(vault)).append('\n');
        for (int index = 0; index < 30; index++) {
            int place = index;
            life.append(Check.outcomeOf(() -> vault.outputChar(place))).append(' ');
        }
        // A well-formed text cannot go on with this sign, so its error position tells how far the text went.
        life.append(vault.feed('?')).append(' ').append(Check.outcomeOf(vault::runCommands));
        life.append(' ').append(errorOf(vault)).append('\n');
        for (int calls = vault.undoCount(); calls > 0; calls--) {
            life.append(vault.undo()).append(' ').append(Check.savedPartOf(vault)).append('\n');
        }
        life.append(Check.outcomeOf(vault::undo)).append('\n');
        life.append(vault.restore()).append(' ').append(Check.savedPartOf(vault));
        return life.toString();
    }
}

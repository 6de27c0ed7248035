/** Texts that are malformed at each place, or end too early there; the input buffer; what a text does and leaves. */
public final class TextTest {
    /** Signs that can go on nowhere. */
    private static final char[] NOWHERE = {'!', 'z', 'W', '/', ':', ',', '\t', '\n', 0, 127, 128, 160, 255, '\u0661',
        '\uffff'};

    private TextTest() {
    }

    public static void main(String[] args) {
        eachCommandAtEachPlace();
        words();
        digits();
        directions();
        separators();
        fullBuffer();
        emptyBuffer();
        bufferAfterwards();
        errorPositions();
        oneUndoForAll();
        failedTextLeavesNothing();
        Check.end();
    }

    private static void malformed(String text, int position) {
        ShareVault vault = Vaults.fed(Vaults.withHolders(2), text);
        Check.throwsOnly("'" + text + "'", vault, Check.ARGUMENT, vault::runCommands);
        Check.due("'" + text + "' error", vault.errorPosition(), position);
        Check.due("'" + text + "' is no refusal", Check.outcomeOf(vault::refusalReason), "NoSuchElementException");
        Check.due("'" + text + "' is taken away", vault.feed('x'), 1);
    }

    private static void wellFormed(String text) {
        ShareVault vault = Vaults.fed(new ShareVault(), text);
        String outcome = Check.outcomeOf(vault::runCommands);
        Check.due("'" + text + "' is well-formed", outcome.equals("IllegalArgumentException"), false);
        Check.due("'" + text + "' has no error", Check.outcomeOf(vault::errorPosition), "NoSuchElementException");
        Check.due("'" + text + "' is taken away", vault.feed('x'), 1);
    }

    private static void eachCommandAtEachPlace() {
        eachPlace("holder");
        eachPlace("seal 1 2 3 4");
        eachPlace("seal 10 20 30 40", 15);
        eachPlace("share 1 2");
        eachPlace("share 1 20", 9);
        eachPlace("give 1");
        eachPlace("back 1");
        eachPlace("open");
        eachPlace("close");
        eachPlace("guard 1+2");
        eachPlace("guard 1-2");
        eachPlace("turn 1");
        eachPlace("hum 1 2");
        eachPlace("wait");
        eachPlace("wait 1", 4);
        eachPlace("wait 10", 4, 6);
        eachPlace("open;close;back 1", 4, 10);
        eachPlace("guard 1+2;wait 1;holder", 9, 14, 16);
    }

    /** The text may end where the numbers say, and nowhere else before its end. */
    private static void eachPlace(String text, int... ends) {
        wellFormed(text);
        for (int place = 0; place <= text.length(); place++) {
            for (char sign : NOWHERE) {
                malformed(text.substring(0, place) + sign, place);
                malformed(text.substring(0, place) + sign + text.substring(place), place);
            }
            if (contains(ends, place)) {
                wellFormed(text.substring(0, place));
            } else if (place < text.length()) {
                malformed(text.substring(0, place), place);
            }
        }
    }

    private static boolean contains(int[] numbers, int number) {
        for (int each : numbers) {
            if (each == number) {
                return true;
            }
        }
        return false;
    }

    /** Letter by letter: the error is at the first letter that begins none of the keywords in this way. */
    private static void words() {
        String[] texts = {"Holder", "hOlder", "holdeR", "OPEN", "opeN", "hm", "hon", "hu 1 1", "see", "sal", "sha",
            "shale", "ga", "gie", "gua", "gu1", "ba", "bag", "clo", "cloth", "oven", "tu", "tun", "wa", "water",
            "open1", "closed", "waits", "holders", "seal1", "share", "opn", "l", "give0", "backs"};
        int[] positions = {0, 1, 5, 0, 3, 1, 2, 2, 2, 1, 3,
            3, 1, 2, 3, 2, 2, 2, 3, 3, 1, 2, 2, 2, 2,
            4, 5, 4, 6, 4, 5, 2, 0, 4, 4};
        for (int index = 0; index < texts.length; index++) {
            malformed(texts[index], positions[index]);
            malformed("open;" + texts[index], 5 + positions[index]);
        }
    }

    private static void digits() {
        for (char digit = '0'; digit <= '9'; digit++) {
            wellFormed("seal " + digit + " " + digit + " " + digit + " " + digit);
            wellFormed("share " + digit + " " + digit + digit);
            wellFormed("guard " + digit + "+" + digit);
            wellFormed("wait " + digit + digit + ";hum " + digit + " " + digit);
        }
        malformed("seal 100 1 1 1", 7);
        malformed("seal 1 001 1 1", 9);
        malformed("seal 1 1 111 1", 11);
        malformed("seal 1 1 1 111", 13);
        malformed("share 10 1", 7);
        malformed("share 1 100", 10);
        malformed("give 10", 6);
        malformed("back 00", 6);
        malformed("guard 10+1", 7);
        malformed("guard 1+10", 9);
        malformed("turn 10", 6);
        malformed("hum 10 1", 5);
        malformed("hum 1 10", 7);
        malformed("wait 100", 7);
        malformed("wait -1", 5);
        malformed("wait +1", 5);
        malformed("seal -1 1 1 1", 5);
    }

    private static void directions() {
        String[] others = {"*", ",", ".", " ", ";", "0", "<", ">"};
        for (String sign : others) {
            malformed("guard 1" + sign + "1", 7);
        }
        malformed("guard 1++1", 8);
        malformed("guard 1+-1", 8);
        malformed("guard 1 + 1", 7);
        malformed("guard 1+ 1", 8);
        malformed("guard +1", 6);
    }

    private static void separators() {
        malformed(";", 0);
        malformed(" ", 0);
        malformed(";open", 0);
        malformed(" open", 0);
        malformed("open;", 5);
        malformed("open;;", 5);
        malformed("open;;open", 5);
        malformed("open; open", 5);
        malformed("open ;open", 4);
        malformed("open ", 4);
        malformed("open open", 4);
        malformed("openopen", 4);
        malformed("open,open", 4);
        malformed("wait ", 5);
        malformed("wait  1", 5);
        malformed("wait ;open", 5);
        malformed("wait 1 ", 6);
        malformed("wait 1 1", 6);
        malformed("seal  1 1 1 1", 5);
        malformed("seal 1 1 1", 10);
        malformed("seal 1 1 1;open", 10);
        malformed("seal 1 1 1 1 1", 12);
        malformed("share 1 ;open", 8);
        malformed("share 1;open", 7);
        malformed("hum 1;open", 5);
    }

    private static void fullBuffer() {
        String full = "holder;".repeat(8) + "wait";
        ShareVault vault = new ShareVault();
        for (int index = 0; index < 60; index++) {
            Check.due("53 length", vault.feed(full.charAt(index)), index + 1);
        }
        for (char sign : new char[] {'r', ';', ' ', 0, '\uffff'}) {
            Check.throwsOnly("53 sixty-first", vault, Check.ILLEGAL_STATE, () -> vault.feed(sign));
        }
        Check.due("54 sixty", vault.runCommands(), 9);
        Check.due("54 sixty", vault.holderCount() * 100 + vault.hour(), 801);
        Check.due("53 room again", vault.feed('w'), 1);
        ShareVault almost = Vaults.fed(new ShareVault(), full.substring(0, 59));
        Check.due("53 sixtieth", almost.feed('t'), 60);
        malformed(full.substring(0, 59), 59);
        malformed("open;".repeat(12), 60);
        malformed("open;".repeat(11) + "openx", 59);
        malformed("open;".repeat(11) + "close".substring(0, 4) + "d", 59);
        wellFormed("open;".repeat(11) + "close");
        malformed("x".repeat(60), 0);
        malformed("seal 1 2 3 4;".repeat(4) + "share 1 ", 60);
        wellFormed("seal 11 22 33 44;".repeat(3) + "share 1 1");
    }

    private static void emptyBuffer() {
        malformed("", 0);
        Twin.malformed("", 0, () -> Vaults.opened(3, 2, 3));
        ShareVault vault = Vaults.withHolders(1);
        Check.due("54 one", Check.run(vault, "wait"), 1);
        Check.throwsOnly("54 run again", vault, Check.ARGUMENT, vault::runCommands);
        Check.due("54 run again", vault.errorPosition(), 0);
        Check.due("54 nothing is carried out again", vault.hour(), 1);
    }

    /** Empty in all cases: after a text that ran, one that failed, and one that was malformed. */
    private static void bufferAfterwards() {
        ShareVault vault = new ShareVault();
        String[] texts = {"wait", "open", "wai", ""};
        for (String text : texts) {
            Check.feedAll(vault, text);
            Check.outcomeOf(vault::runCommands);
            Check.due("54 after '" + text + "'", vault.feed('w'), 1);
            Check.due("54 after '" + text + "'", Check.run(vault, "ait"), 1);
        }
        Check.due("54 all ran", vault.hour(), 5);
        Check.feedAll(vault, "wait 2");
        vault.undo();
        vault.save();
        vault.writeZones();
        vault.restore();
        Check.due("53 the buffer is neither undone nor restored", vault.runCommands(), 1);
        Check.due("53 the buffer is neither undone nor restored", vault.hour(), 6);
    }

    private static void errorPositions() {
        ShareVault vault = new ShareVault();
        Check.throwsOnly("55 none", vault, Check.NO_ELEMENT, vault::errorPosition);
        Check.run(vault, "holder");
        Check.outcomeOf(() -> Check.run(vault, "open"));
        Check.throwsOnly("55 still none", vault, Check.NO_ELEMENT, vault::errorPosition);
        Check.outcomeOf(() -> Check.run(vault, "wait 1x"));
        Check.due("55 first", vault.errorPosition(), 6);
        vault.save();
        Check.run(vault, "holder");
        Check.outcomeOf(() -> Check.run(vault, "close"));
        vault.undo();
        vault.restore();
        Check.due("55 kept", vault.errorPosition(), 6);
        Check.outcomeOf(() -> Check.run(vault, "?"));
        Check.due("55 latest", vault.errorPosition(), 0);
        Check.outcomeOf(() -> Check.run(vault, "x".repeat(60)));
        Check.outcomeOf(() -> Check.run(vault, "wait;".repeat(12)));
        Check.due("55 greatest", vault.errorPosition(), 60);
    }

    private static void oneUndoForAll() {
        ShareVault vault = new ShareVault();
        Check.due("54 twelve", Check.run(vault, "wait;".repeat(11) + "wait"), 12);
        Check.due("54 recorded once", vault.undoCount(), 1);
        Check.due("54 hours", vault.hour(), 12);
        Check.due("54 undone at once", vault.undo(), 0);
        Check.due("54 undone at once", vault.hour(), 0);
        Check.run(vault, "hum 0 9;hum 0 9;hum 0 9");
        Check.due("54 full noise", vault.noise(0), 20);
        Check.run(vault, "hum 0 1");
        Check.due("54 recorded without a change", vault.undoCount(), 2);
    }

    private static void failedTextLeavesNothing() {
        Twin.failing("holder;hum 7 9;wait 9;guard 1-1;seal 1 1 1 1;give 0;open", 6, 9, ShareVault::new);
        Twin.failing("turn 0;guard 7+1;share 0 1;share 0 1;turn 2", 4, 12, () -> Vaults.opened(1, 1, 1));
        Twin.failing("close;give 0;give 1;hum 4 9;wait;back 0;back 0", 6, 5, () -> Vaults.opened(2, 2, 2));
        // The third failed attempt of a text would lock the vault, but the text fails with the first.
        Twin.failing("open", 0, 12, () -> Vaults.failed(2));
        Twin.failing("wait 24;wait 24;hum 2 9;wait;wait 25", 4, 12, () -> Vaults.withEntries(12));
        ShareVault vault = Vaults.failed(2);
        Check.outcomeOf(() -> Check.run(vault, "open"));
        Check.due("54 the failed attempt is taken back", vault.failedAttempts(), 2);
        Check.due("54 not locked", vault.lockedHours(), 0);
        Check.due("54 no new entry", Check.logOf(vault), "0f1 0f1");
    }
}

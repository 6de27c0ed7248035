/**
 * Each range that the document names: the numbers in it are taken; one below it, one above it, and the least
 * and the greatest int are not, and leave all as it was.
 */
public final class RangeTest {
    private static final int[] COUNTS = {0, 1, 5, 8};

    private interface Use {
        Object on(ShareVault vault, int number);
    }

    private RangeTest() {
    }

    public static void main(String[] args) {
        sealRanges();
        holderRanges();
        keyRanges();
        guardRanges();
        zoneRanges();
        hourRanges();
        logRanges();
        outputRanges();
        Check.end();
    }

    private static void sealRanges() {
        Vaults.Maker maker = () -> Vaults.withHolders(3);
        range("3 secret", 0, 96, Check.ARGUMENT, maker, (vault, number) -> vault.seal(number, 0, 0, 1));
        range("3 first", 0, 96, Check.ARGUMENT, maker, (vault, number) -> vault.seal(0, number, 0, 1));
        range("3 second", 0, 96, Check.ARGUMENT, maker, (vault, number) -> vault.seal(0, 0, number, 1));
        range("3 threshold", 1, 3, Check.ARGUMENT, maker, (vault, number) -> vault.seal(0, 0, 0, number));
        Vaults.Maker sealed = () -> Vaults.sealed(3, 2, 2);
        range("3 secret anew", 0, 96, Check.ARGUMENT, sealed, (vault, number) -> vault.seal(number, 96, 96, 3));
        range("3 threshold anew", 1, 3, Check.ARGUMENT, sealed, (vault, number) -> vault.seal(96, 96, 96, number));
        range("4 share", 0, 96, Check.ARGUMENT, sealed, (vault, number) -> vault.setShare(2, number));
        range("24 position", 0, 96, Check.ARGUMENT, sealed, ShareVault::toldValue);
    }

    private static void holderRanges() {
        for (int count : COUNTS) {
            Vaults.Maker maker = () -> count == 0 ? new ShareVault() : Vaults.sealed(count, 1, 0);
            Vaults.Maker given = () -> count == 0 ? new ShareVault() : Vaults.sealed(count, 1, count);
            int last = count - 1;
            range("4 holder", 0, last, Check.INDEX, maker, (vault, number) -> vault.setShare(number, 5));
            range("5 holder", 0, last, Check.INDEX, maker, ShareVault::present);
            range("6 holder", 0, last, Check.INDEX, given, ShareVault::takeBack);
            range("17 holder", 0, last, Check.INDEX, maker, ShareVault::share);
            range("18 holder", 0, last, Check.INDEX, maker, ShareVault::isCorrect);
            range("19 holder", 0, last, Check.INDEX, maker, ShareVault::isPresented);
        }
    }

    private static void keyRanges() {
        for (int count : COUNTS) {
            Vaults.Maker maker = () -> Vaults.sealed(8, 1, count);
            range("21 place", 0, count - 1, Check.NO_ELEMENT, maker, ShareVault::presentedAt);
        }
        range("21 place unsealed", 0, -1, Check.NO_ELEMENT, () -> Vaults.withHolders(8), ShareVault::presentedAt);
    }

    private static void guardRanges() {
        int[][] zones = {{}, {0}, {7, 0}, {7, 0, 3}};
        for (int[] each : zones) {
            Vaults.Maker maker = () -> Vaults.withGuards(each);
            range("10 guard", 0, each.length - 1, Check.INDEX, maker, ShareVault::turnGuard);
            range("32 guard", 0, each.length - 1, Check.INDEX, maker, ShareVault::zoneOf);
            range("33 guard", 0, each.length - 1, Check.INDEX, maker, ShareVault::isForwards);
        }
        Vaults.Maker two = () -> Vaults.withGuards(7, 0);
        range("9 zone", 0, 7, Check.ARGUMENT, two, (vault, number) -> vault.addGuard(number, false, 1));
        range("9 period", 1, 4, Check.ARGUMENT, two, (vault, number) -> vault.addGuard(0, false, number));
    }

    private static void zoneRanges() {
        Vaults.Maker maker = () -> {
            ShareVault vault = Vaults.withEntries(3);
            vault.addGuard(2, false, 3);
            return vault;
        };
        range("11 zone", 0, 7, Check.ARGUMENT, maker, (vault, number) -> vault.hum(number, 9));
        range("11 loudness", 1, 9, Check.ARGUMENT, maker, (vault, number) -> vault.hum(7, number));
        range("34 zone", 0, 7, Check.ARGUMENT, maker, ShareVault::noise);
        range("35 zone", 0, 7, Check.ARGUMENT, maker, ShareVault::isGuarded);
        range("36 zone", 0, 7, Check.ARGUMENT, maker, ShareVault::hoursUntilVisit);
        range("37 zone", 0, 7, Check.ARGUMENT, maker, ShareVault::hoursUntilVisitByRemainders);
        range("39 rank", 0, 7, Check.NO_ELEMENT, maker, ShareVault::zoneByNoise);
        range("40 zone", 0, 7, Check.ARGUMENT, maker, ShareVault::alarmsOf);
        range("48 zone", 0, 7, Check.ARGUMENT, maker, ShareVault::alarmShare);
        range("34 zone of a new vault", 0, 7, Check.ARGUMENT, ShareVault::new, ShareVault::noise);
        range("35 zone of a new vault", 0, 7, Check.ARGUMENT, ShareVault::new, ShareVault::isGuarded);
        range("39 rank of a new vault", 0, 7, Check.NO_ELEMENT, ShareVault::new, ShareVault::zoneByNoise);
        range("40 zone of a new vault", 0, 7, Check.ARGUMENT, ShareVault::new, ShareVault::alarmsOf);
    }

    private static void hourRanges() {
        Vaults.Maker maker = () -> Vaults.withEntries(2);
        range("12 hours", 1, 24, Check.ARGUMENT, maker, ShareVault::passHours);
        range("38 hours", 0, 24, Check.ARGUMENT, maker, ShareVault::alarmsIn);
    }

    private static void logRanges() {
        for (int count : new int[] {0, 1, 11, 12, 13}) {
            Vaults.Maker maker = () -> Vaults.withEntries(count);
            int last = Math.min(count, 12) - 1;
            range("44 place", 0, last, Check.NO_ELEMENT, maker, ShareVault::logHour);
            range("45 place", 0, last, Check.NO_ELEMENT, maker, ShareVault::logKind);
            range("46 place", 0, last, Check.NO_ELEMENT, maker, ShareVault::logDetail);
        }
    }

    /** The twins' own output is that of writeZones, so here the vaults are looked at without them. */
    private static void outputRanges() {
        ShareVault vault = new ShareVault();
        outputIs("58 empty", vault, "");
        vault.writeZones();
        outputIs("58 zones", vault, "0 0 0 0 0 0 0 0");
        vault.writeLog();
        outputIs("58 empty log", vault, "");
        vault.hum(7, 5);
        vault.passHours(24);
        vault.writeLog();
        outputIs("58 log", vault, "1a7");
    }

    private static void outputIs(String what, ShareVault vault, String output) {
        for (int index = 0; index < output.length(); index++) {
            Check.due(what, vault.outputChar(index), output.charAt(index));
        }
        for (int index : wrongNumbers(0, output.length() - 1)) {
            Check.throwsOnly(what, vault, Check.INDEX, () -> vault.outputChar(index));
        }
    }

    private static int[] wrongNumbers(int least, int greatest) {
        return new int[] {least - 1, greatest + 1, Integer.MIN_VALUE, Integer.MAX_VALUE};
    }

    private static void range(String what, int least, int greatest, Class<?> thrown, Vaults.Maker maker, Use use) {
        for (int number = least; number <= greatest; number++) {
            int taken = number;
            ShareVault vault = maker.make();
            String outcome = Check.outcomeOf(() -> use.on(vault, taken));
            Check.due(what + " " + number + " is taken", outcome.endsWith("Exception"), false);
        }
        for (int number : wrongNumbers(least, greatest)) {
            Twin.throwsOnly(what + " " + number, thrown, maker, vault -> use.on(vault, number));
        }
    }
}

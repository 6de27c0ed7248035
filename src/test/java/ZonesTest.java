/** The edges of zones, guards, hours and alarms, among them the ring from 7 to 0 and from 0 to 7. */
public final class ZonesTest {
    private ZonesTest() {
    }

    public static void main(String[] args) {
        noGuard();
        thirdAndFourthGuard();
        roundTheRing();
        turningAtTheEndOfTheRing();
        neighboursInTheRing();
        periods();
        visitsRoundTheRing();
        visitsInTheMiddleOfAPeriod();
        noiseFromNoneToTwenty();
        noiseThatFades();
        alarmAtFive();
        noAlarmBesideGuards();
        guardsWalkBeforeZonesAreVisited();
        vaultUnlocksAtLast();
        allZonesAtOnce();
        leastAndMostHours();
        ranks();
        shares();
        Check.end();
    }

    private static void noGuard() {
        ShareVault vault = new ShareVault();
        Check.due("31 none", vault.guardCount(), 0);
        for (int zone = 0; zone < 8; zone++) {
            int each = zone;
            Check.due("35 none", vault.isGuarded(zone), false);
            Twin.throwsOnly("36 none", Check.NO_ELEMENT, ShareVault::new, other -> other.hoursUntilVisit(each));
            Twin.throwsOnly("37 none", Check.NO_ELEMENT, ShareVault::new,
                other -> other.hoursUntilVisitByRemainders(each));
        }
        Check.due("49 none", vault.isConsistent(), true);
        vault.passHours(24);
        Check.due("56 none", Check.zonesOf(vault), "0 0 0 0 0 0 0 0");
    }

    private static void thirdAndFourthGuard() {
        ShareVault vault = Vaults.withGuards(7, 0);
        Check.due("9 third", vault.addGuard(7, false, 1), 2);
        Check.due("31 three", vault.guardCount(), 3);
        Check.due("32 third", vault.zoneOf(2), 7);
        Check.due("33 third", vault.isForwards(2), false);
        Check.refused("9 fourth", vault, 1, 3, () -> vault.addGuard(7, false, 1));
        Check.due("31 still three", vault.guardCount(), 3);
        Check.due("10 third", vault.turnGuard(2), true);
        Check.due("56 three in all", Check.zonesOf(vault), "0> 0 0 0 0 0 0 0>>");
        ShareVault together = Vaults.withGuards(0, 0, 0);
        together.turnGuard(1);
        Check.due("56 three in one zone", Check.zonesOf(together), "0><> 0 0 0 0 0 0 0");
        for (int period = 1; period <= 4; period++) {
            Check.due("9 index", new ShareVault().addGuard(period + 3, true, period), 0);
        }
    }

    private static void roundTheRing() {
        ShareVault vault = new ShareVault();
        vault.addGuard(0, true, 1);
        vault.addGuard(0, false, 1);
        for (int hour = 1; hour <= 17; hour++) {
            vault.passHours(1);
            Check.due("32 forwards, from 7 to 0", vault.zoneOf(0), hour % 8);
            Check.due("32 backwards, from 0 to 7", vault.zoneOf(1), (24 - hour) % 8);
        }
        ShareVault day = new ShareVault();
        day.addGuard(7, true, 1);
        day.addGuard(0, false, 1);
        day.passHours(1);
        Check.due("32 from 7", day.zoneOf(0), 0);
        Check.due("32 from 0", day.zoneOf(1), 7);
        day.passHours(24);
        Check.due("32 three rounds", day.zoneOf(0) * 10 + day.zoneOf(1), 7);
    }

    private static void turningAtTheEndOfTheRing() {
        ShareVault vault = new ShareVault();
        vault.addGuard(7, true, 1);
        Check.due("10 backwards", vault.turnGuard(0), false);
        vault.passHours(1);
        Check.due("32 from 7 to 6", vault.zoneOf(0), 6);
        Check.due("10 forwards", vault.turnGuard(0), true);
        vault.passHours(2);
        Check.due("32 from 6 to 0", vault.zoneOf(0), 0);
        Check.due("10 backwards again", vault.turnGuard(0), false);
        Check.due("33", vault.isForwards(0), false);
        vault.passHours(1);
        Check.due("32 from 0 to 7", vault.zoneOf(0), 7);
        vault.turnGuard(0);
        vault.turnGuard(0);
        Check.due("33 turned twice", vault.isForwards(0), false);
    }

    private static void neighboursInTheRing() {
        for (int zone = 0; zone < 8; zone++) {
            ShareVault vault = Vaults.withGuards(zone);
            for (int other = 0; other < 8; other++) {
                int apart = Math.min(Math.abs(zone - other), 8 - Math.abs(zone - other));
                Check.due("35 " + zone + " for " + other, vault.isGuarded(other), apart <= 1);
                ShareVault noisy = Vaults.withGuards(zone);
                noisy.hum(other, 9);
                Check.due("12 " + zone + " for " + other, noisy.passHours(1), apart <= 1 ? 0 : 1);
                Check.due("12 " + zone + " for " + other, noisy.noise(other), apart == 1 ? 8 : 0);
            }
        }
    }

    /** A guard walks in the hours that its period divides, whenever it was added. */
    private static void periods() {
        for (int period = 1; period <= 4; period++) {
            for (int before = 0; before <= 4; before++) {
                ShareVault vault = new ShareVault();
                for (int hour = 0; hour < before; hour++) {
                    vault.passHours(1);
                }
                vault.addGuard(5, true, period);
                for (int hour = before + 1; hour <= before + 13; hour++) {
                    vault.passHours(1);
                    Check.due("12 period " + period, vault.zoneOf(0), (5 + hour / period - before / period) % 8);
                }
            }
        }
    }

    private static void visitsRoundTheRing() {
        for (int period = 1; period <= 4; period++) {
            for (int start = 0; start < 8; start++) {
                ShareVault forwards = new ShareVault();
                forwards.addGuard(start, true, period);
                ShareVault backwards = new ShareVault();
                backwards.addGuard(start, false, period);
                for (int zone = 0; zone < 8; zone++) {
                    visit(forwards, zone, (zone - start + 8) % 8 * period);
                    visit(backwards, zone, (start - zone + 8) % 8 * period);
                }
            }
        }
    }

    private static void visit(ShareVault vault, int zone, int hours) {
        Check.due("36 to " + zone, vault.hoursUntilVisit(zone), hours);
        Check.due("37 to " + zone, vault.hoursUntilVisitByRemainders(zone), hours);
        Check.due("49 visits", vault.isConsistent(), true);
    }

    private static void visitsInTheMiddleOfAPeriod() {
        for (int period = 1; period <= 4; period++) {
            for (int before = 1; before <= 12; before++) {
                ShareVault vault = new ShareVault();
                vault.passHours(before);
                vault.addGuard(7, true, period);
                visit(vault, 7, 0);
                visit(vault, 0, period - before % period);
                visit(vault, 6, 7 * period - before % period);
            }
        }
        ShareVault three = new ShareVault();
        three.addGuard(0, true, 4);
        three.addGuard(0, true, 1);
        three.addGuard(4, false, 2);
        visit(three, 3, 2);
        visit(three, 2, 2);
        visit(three, 7, 7);
        visit(three, 5, 5);
        three.turnGuard(1);
        visit(three, 7, 1);
        visit(three, 5, 3);
        visit(three, 1, 4);
    }

    private static void noiseFromNoneToTwenty() {
        for (int loudness = 1; loudness <= 9; loudness++) {
            ShareVault vault = new ShareVault();
            for (int call = 1; call <= 21; call++) {
                Check.due("11 up to 20", vault.hum(7, loudness), Math.min(20, call * loudness));
                Check.due("34 up to 20", vault.noise(7), Math.min(20, call * loudness));
            }
            Check.due("34 other zone", vault.noise(0), 0);
        }
        ShareVault vault = new ShareVault();
        vault.hum(0, 9);
        vault.hum(0, 9);
        Check.due("11 nineteen", vault.hum(0, 1), 19);
        Check.due("11 twenty", vault.hum(0, 1), 20);
        Check.due("11 not twenty-one", vault.hum(0, 1), 20);
        Check.due("56 twenty", Check.zonesOf(vault), "20 0 0 0 0 0 0 0");
    }

    private static void noiseThatFades() {
        ShareVault vault = new ShareVault();
        vault.hum(7, 4);
        for (int noise = 4; noise >= 0; noise--) {
            Check.due("34 fades", vault.noise(7), noise);
            Check.due("12 no alarm", vault.passHours(1), 0);
        }
        Check.due("34 not below 0", vault.noise(7), 0);
        ShareVault beside = Vaults.withGuards(7);
        for (int call = 0; call < 3; call++) {
            beside.hum(6, 9);
        }
        beside.passHours(3);
        Check.due("34 fades from twenty beside a guard", beside.noise(6), 17);
        ShareVault inside = Vaults.withGuards(7);
        inside.hum(7, 1);
        inside.passHours(1);
        Check.due("34 silent with a guard", inside.noise(7), 0);
    }

    private static void alarmAtFive() {
        for (int loudness = 1; loudness <= 9; loudness++) {
            for (int zone = 0; zone < 8; zone++) {
                boolean isLoud = loudness >= 5;
                ShareVault vault = new ShareVault();
                vault.hum(zone, loudness);
                Check.due("38 " + loudness, vault.alarmsIn(1), isLoud ? 1 : 0);
                Check.due("12 " + loudness, vault.passHours(1), isLoud ? 1 : 0);
                Check.due("34 " + loudness, vault.noise(zone), isLoud ? 0 : loudness - 1);
                Check.due("40 " + loudness, vault.alarmsOf(zone), isLoud ? 1 : 0);
                Check.due("41 " + loudness, vault.alarmCount(), isLoud ? 1 : 0);
                Check.due("57 " + loudness, Check.logOf(vault), isLoud ? "1a" + zone : "");
            }
        }
    }

    private static void noAlarmBesideGuards() {
        ShareVault vault = new ShareVault();
        vault.addGuard(7, true, 4);
        vault.hum(7, 9);
        vault.hum(0, 9);
        vault.hum(6, 9);
        vault.hum(1, 9);
        vault.hum(5, 9);
        Check.due("12 two", vault.passHours(1), 2);
        Check.due("57 those without a guard beside them", Check.logOf(vault), "1a1 1a5");
        Check.due("56", Check.zonesOf(vault), "8 0 0 0 0 0 8 0>");
        Check.due("12 still beside", vault.passHours(2), 0);
        // In the fourth hour the guard walks to 0, away from 6, whose noise is 6 then.
        Check.due("38 walked on", vault.alarmsIn(1), 1);
        Check.due("12 walked on", vault.passHours(1), 1);
        Check.due("56 walked on", Check.zonesOf(vault), "0> 0 0 0 0 0 0 0");
    }

    private static void guardsWalkBeforeZonesAreVisited() {
        ShareVault vault = new ShareVault();
        vault.addGuard(7, true, 1);
        vault.hum(0, 5);
        vault.hum(1, 5);
        vault.hum(6, 5);
        vault.hum(7, 5);
        Check.due("12 left behind", vault.passHours(1), 1);
        Check.due("57 left behind", Check.logOf(vault), "1a6");
        Check.due("56 left behind", Check.zonesOf(vault), "0> 4 0 0 0 0 0 4");
    }

    /** The hour of an alarm is the one that has passed, also when the vault is unlocked in it. */
    private static void vaultUnlocksAtLast() {
        ShareVault vault = Vaults.locked();
        vault.hum(5, 9);
        vault.passHours(5);
        Check.due("29 one left", vault.lockedHours(), 1);
        vault.hum(5, 9);
        Check.due("12 alarm while unlocking", vault.passHours(1), 1);
        Check.due("29 none left", vault.lockedHours(), 0);
        Check.due("57", Check.logOf(vault), "0f1 0f1 0f1 1a5 6a5");
    }

    private static void allZonesAtOnce() {
        ShareVault vault = new ShareVault();
        for (int zone = 7; zone >= 0; zone--) {
            vault.hum(zone, 5);
        }
        Check.due("38 eight", vault.alarmsIn(1), 8);
        Check.due("38 eight once", vault.alarmsIn(24), 8);
        Check.due("12 eight", vault.passHours(24), 8);
        Check.due("57 ascending", Check.logOf(vault), "1a0 1a1 1a2 1a3 1a4 1a5 1a6 1a7");
        Check.due("41 eight", vault.alarmCount(), 8);
        for (int zone = 0; zone < 8; zone++) {
            Check.due("40 one each", vault.alarmsOf(zone), 1);
        }
    }

    private static void leastAndMostHours() {
        ShareVault vault = Vaults.withGuards(0);
        vault.hum(2, 9);
        Check.due("38 no hour", vault.alarmsIn(0), 0);
        Check.due("38 one hour", vault.alarmsIn(1), 1);
        Check.due("12 one hour", vault.passHours(1), 1);
        Check.due("13 one hour", vault.hour(), 1);
        for (int call = 0; call < 3; call++) {
            vault.hum(7, 9);
        }
        // Beside the guard the noise fades from 20 to 18; the guard walks away in the hour 4, and it is an alarm.
        Check.due("38 two hours", vault.alarmsIn(2), 0);
        Check.due("38 three hours", vault.alarmsIn(3), 1);
        String before = Check.stateOf(vault);
        Check.due("38 a day", vault.alarmsIn(24), 1);
        Check.due("38 changes nothing", Check.stateOf(vault), before);
        Check.due("12 a day", vault.passHours(24), 1);
        Check.due("13 a day", vault.hour(), 25);
        Check.due("57 hours", Check.logOf(vault), "1a2 4a7");
        ShareVault last = Vaults.withGuards(0, 4);
        last.turnGuard(1);
        last.passHours(3);
        Check.due("38 from the middle of a period", last.alarmsIn(24), 0);
    }

    private static void ranks() {
        ShareVault vault = new ShareVault();
        order("39 by number", vault, 0, 1, 2, 3, 4, 5, 6, 7);
        vault.hum(7, 5);
        order("39 the last first", vault, 7, 0, 1, 2, 3, 4, 5, 6);
        vault.passHours(1);
        order("39 by alarms", vault, 7, 0, 1, 2, 3, 4, 5, 6);
        vault.hum(0, 1);
        order("39 noise before alarms", vault, 0, 7, 1, 2, 3, 4, 5, 6);
        vault.hum(7, 1);
        order("39 the same noise", vault, 7, 0, 1, 2, 3, 4, 5, 6);
        vault.hum(3, 5);
        vault.hum(0, 4);
        vault.hum(7, 4);
        vault.passHours(1);
        order("39 more alarms", vault, 7, 0, 3, 1, 2, 4, 5, 6);
        for (int zone = 0; zone < 8; zone++) {
            vault.hum(zone, zone + 1);
        }
        order("39 upside down", vault, 7, 6, 5, 4, 3, 2, 1, 0);
    }

    private static void order(String what, ShareVault vault, int... zones) {
        for (int rank = 0; rank < 8; rank++) {
            Check.due(what, vault.zoneByNoise(rank), zones[rank]);
        }
    }

    private static void shares() {
        ShareVault vault = new ShareVault();
        Check.due("47 silent", vault.meanNoise(), 0.0);
        vault.hum(7, 1);
        Check.due("47 least", vault.meanNoise(), 0.125);
        for (int zone = 0; zone < 8; zone++) {
            for (int call = 0; call < 3; call++) {
                vault.hum(zone, 9);
            }
        }
        Check.due("47 greatest", vault.meanNoise(), 20.0);
        vault.undo();
        Check.due("47 one below", vault.meanNoise(), 19.875);
        Twin.throwsOnly("48 no alarm", Check.ARITHMETIC, () -> Vaults.withGuards(0), other -> other.alarmShare(0));
        ShareVault one = Vaults.withEntries(1);
        Check.due("48 all", one.alarmShare(0), 1f);
        Check.due("48 none of them", one.alarmShare(7), 0f);
        ShareVault many = Vaults.withEntries(11);
        for (int zone = 0; zone < 8; zone++) {
            Check.due("48 some", many.alarmShare(zone), (zone < 3 ? 2f : 1f) / 11f);
        }
    }
}

/** The boundaries of "Doors", and of the promises 8 to 11. */
public final class DoorBoundsTest {
    public static void main(String[] args) {
        zonesAsManyAsAreNeeded();
        onlyZonesOfTheGroupCount();
        dayIsDateOrLater();
        noneOfTwoCourts();
        freezingTwiceIsOnce();
        dayIsZeroAtFirstAnd999AtMost();
        daysAreOneTo365();
        whoIsNotLawfulIsRefusedFirst();
        eachNumberIsFound();
        onlyOpeningsNote();
        allMayBeNoted();
        openingChangesNothingElse();
        knocksAreCountedWithThese();
        Check.end();
    }

    private static Threeboxes ofEight() {
        return Banks.ofZones(0, 1, 2, 3, 0, 1, 2, 3);
    }

    private static void zonesAsManyAsAreNeeded() {
        for (int zones = 1; zones <= 4; zones++) {
            Threeboxes bank = ofEight();
            bank.deal(5, 1, zones, 0, 255);
            int opened = 0;
            for (int set = 0; set < 256; set++) {
                int there = Integer.bitCount((set | set >> 4) & 15);
                boolean isLawful = there >= zones;
                Check.same(set + " where " + zones + " are needed", bank.would(0, set, 1), isLawful ? 1 : 0);
                opened += isLawful ? 1 : 0;
            }
            Check.same("how many sets may", opened, new int[] {0, 255, 243, 189, 81}[zones]);
            int enough = (1 << zones) - 1;
            Check.same("as many", bank.open(0, enough), 5);
            Check.same("one fewer", bank.open(0, enough >> 1), -1);
            Check.same("one fewer, by twice as many keepers", bank.open(0, (enough >> 1) * 17), -1);
            Check.same("REFUSED", bank.bank(6), 2);
        }
    }

    private static void onlyZonesOfTheGroupCount() {
        Threeboxes bank = Banks.ofZones(0, 1, 2, 3);
        bank.deal(5, 1, 3, 0, 7);
        Check.same("all three zones", bank.open(0, 7), 5);
        Check.same("a keeper without a share is of no group", bank.open(0, 0b1011), -1);
        bank.fresh(0, 3);
        Check.same("nor one with a stale share", bank.open(0, 15), -1);
        bank.rebuild(0, 2, 3);
        Check.same("one that is rebuilt is", bank.open(0, 15), 5);
        bank.flood(1);
        Check.same("one whose share is lost is not", bank.open(0, 15), -1);
    }

    private static void dayIsDateOrLater() {
        for (int date : new int[] {0, 1, 2, 500, 998, 999}) {
            Threeboxes bank = ofEight();
            bank.deal(5, 1, 1, date, 255);
            if (date > 0) {
                Banks.goTo(bank, date - 1);
                Check.same("a day ahead of " + date, bank.would(0, 255, 1), 0);
                Check.same("a day ahead of " + date, bank.open(0, 255), -1);
            }
            Banks.goTo(bank, date);
            Check.same("on " + date, bank.would(0, 255, 1), 1);
            Check.same("on " + date, bank.open(0, 255), 5);
            if (date < 999) {
                bank.pass(1);
                Check.same("a day after " + date, bank.would(0, 255, 1), 1);
                Check.same("a day after " + date, bank.open(0, 255), 5);
            }
            Check.same("REFUSED", bank.bank(6), date > 0 ? 1 : 0);
        }
    }

    private static void noneOfTwoCourts() {
        for (int courts = 0; courts < 4; courts++) {
            Threeboxes bank = ofEight();
            bank.deal(5, 1, 1, 0, 255);
            bank.deal(6, 1, 1, 0, 255);
            for (int court = 0; court <= 1; court++) {
                if ((courts >> court & 1) == 1) {
                    bank.freeze(court, 1, true);
                }
            }
            Check.same("FROZEN by the courts " + courts, bank.ofSecret(1, 6), Integer.bitCount(courts));
            Check.same("LAWFUL", bank.would(1, 255, 1), courts == 0 ? 1 : 0);
            Check.same("open", bank.open(1, 255), courts == 0 ? 6 : -1);
            Check.same("row", bank.row(1), courts == 0 ? "oooooooo" : "oooooooo!");
            Check.same("another secret", bank.open(0, 255), 5);
            Check.same("its row", bank.row(0), "oooooooo");
        }
    }

    private static void freezingTwiceIsOnce() {
        for (int court = 0; court <= 1; court++) {
            Threeboxes bank = ofEight();
            bank.deal(5, 1, 1, 0, 255);
            Check.same("not any more, when it never was", bank.freeze(court, 0, false), 0);
            Check.same("once", bank.freeze(court, 0, true), 1);
            Check.same("twice", bank.freeze(court, 0, true), 1);
            Check.same("the other not any more", bank.freeze(1 - court, 0, false), 1);
            Check.same("the other", bank.freeze(1 - court, 0, true), 2);
            Check.same("not any more", bank.freeze(court, 0, false), 1);
            Check.same("not any more, again", bank.freeze(court, 0, false), 1);
            Check.same("by the other it is", bank.open(0, 255), -1);
            Check.same("nor by the other", bank.freeze(1 - court, 0, false), 0);
            Check.same("open", bank.open(0, 255), 5);
            Check.noIndex("the court 2", bank, () -> bank.freeze(2, 0, true));
            Check.noIndex("the court -1", bank, () -> bank.freeze(-1, 0, true));
            Check.noIndex("the court 2, no secret", bank, () -> bank.freeze(2, 1, false));
        }
    }

    private static void dayIsZeroAtFirstAnd999AtMost() {
        Threeboxes bank = new Threeboxes();
        Check.same("DAY at first", bank.bank(2), 0);
        Banks.goTo(bank, 998);
        Check.noState("pass(2)", bank, () -> bank.pass(2));
        Check.noState("pass(365)", bank, () -> bank.pass(365));
        Check.same("pass(1)", bank.pass(1), 999);
        Check.same("DAY", bank.bank(2), 999);
        Check.noState("pass(1)", bank, () -> bank.pass(1));
        Check.noState("pass(365)", bank, () -> bank.pass(365));
        for (int days : new int[] {0, -1, 366, Integer.MAX_VALUE, Integer.MIN_VALUE}) {
            Check.noArgument("pass(" + days + ") on the last day", bank, () -> bank.pass(days));
        }
        Threeboxes other = new Threeboxes();
        Banks.goTo(other, 634);
        Check.same("pass(365) to the last day", other.pass(365), 999);
        Threeboxes third = new Threeboxes();
        Banks.goTo(third, 635);
        Check.noState("pass(365) beyond it", third, () -> third.pass(365));
    }

    private static void daysAreOneTo365() {
        Threeboxes bank = new Threeboxes();
        Check.same("pass(1)", bank.pass(1), 1);
        Check.same("pass(365)", bank.pass(365), 366);
        for (int days : new int[] {0, -1, -366, 366, 1000, Integer.MAX_VALUE, Integer.MIN_VALUE}) {
            Check.noArgument("pass(" + days + ")", bank, () -> bank.pass(days));
        }
    }

    private static void whoIsNotLawfulIsRefusedFirst() {
        Threeboxes bank = ofEight();
        bank.deal(5, 3, 2, 0, 255);
        bank.lie(0, 9);
        Check.same("nobody", bank.open(0, 0), -1);
        Check.same("one, neither LAWFUL nor GOOD", bank.open(0, 1), -1);
        Check.same("two, LAWFUL, not GOOD", bank.open(0, 3), -2);
        Check.same("three, LAWFUL and GOOD", bank.open(0, 0b01110000), 5);
        bank.freeze(0, 0, true);
        Check.same("four with a liar, neither LAWFUL nor GOOD", bank.open(0, 15), -1);
        Check.same("five with a liar, GOOD, not LAWFUL", bank.open(0, 31), -1);
        Check.same("REFUSED", bank.bank(6), 4);
        Check.same("FAILED", bank.bank(7), 1);
        Check.same("nobody is NOTED at the door", bank.bank(9), 0);
        int[] kinds = {0, 5, 5, 6, 4, 5, 5};
        for (int e = 0; e < kinds.length; e++) {
            Check.same("KIND of " + e, bank.ofEntry(e, 0), kinds[e]);
        }
    }

    private static void eachNumberIsFound() {
        for (int value = 0; value <= 96; value++) {
            for (int t = 1; t <= 4; t++) {
                Threeboxes bank = ofEight();
                bank.deal(value, t, 4, 0, 255);
                Check.same("open", bank.open(0, 255), value);
                Check.same("KIND", bank.ofEntry(1, 0), 4);
            }
        }
    }

    private static void onlyOpeningsNote() {
        Threeboxes bank = ofEight();
        bank.deal(5, 2, 1, 0, 127);
        bank.lie(2, 4);
        bank.would(0, 127, 4);
        bank.may(0, 127, 5);
        bank.rebuild(0, 7, 127);
        bank.fresh(0, 255);
        Check.same("five freshly dealt fail with two liars", bank.lie(3, 5) + bank.open(0, 0b00011111), -2);
        Check.same("NOTED by others", bank.bank(9), 0);
        bank.lie(3, 0);
        bank.open(0, 255);
        Check.same("NOTED by an opening", bank.bank(9), 1);
        bank.open(0, 255);
        Check.same("who is NOTED twice is NOTED", bank.bank(9), 1);
        bank.lie(2, 0);
        bank.open(0, 255);
        Check.same("who is NOTED stays so", bank.ofKeeper(2, 4), 1);
    }

    private static void allMayBeNoted() {
        Threeboxes bank = ofEight();
        bank.deal(5, 1, 1, 0, 255);
        for (int k = 0; k < 8; k++) {
            Check.same("NOTED ahead of " + k, bank.bank(9), k);
            Check.same("of " + k, bank.ofKeeper(k, 4), 0);
            bank.lie(k, 1);
            bank.open(0, 255 - ((1 << k) - 1) | (k == 7 ? 0b01100000 : 0) | (k == 6 ? 0b00100000 : 0));
            bank.lie(k, 0);
            Check.same("of " + k, bank.ofKeeper(k, 4), 1);
        }
        Check.same("NOTED", bank.bank(9), 8);
    }

    private static void openingChangesNothingElse() {
        Threeboxes bank = ofEight();
        bank.deal(5, 2, 2, 0, 255);
        bank.fresh(0, 0b01111111);
        for (int set : new int[] {0, 1, 0b00010001, 3, 255}) {
            bank.open(0, set);
            Check.same("row", bank.row(0), "ooooooos");
            Check.same("LUCK", bank.bank(3), 33);
            Check.same("EPOCH", bank.ofSecret(0, 3), 1);
            Check.same("MESSAGES", bank.bank(8), 0);
        }
    }

    private static void knocksAreCountedWithThese() {
        Threeboxes bank = new Threeboxes();
        for (int n = 1; n <= 500; n++) {
            Check.same("knock()", bank.knock(), n);
        }
        Check.same("REFUSED", bank.bank(6), 500);
        Check.same("ENTRIES", bank.bank(4), 0);
        Threeboxes other = ofEight();
        other.deal(5, 2, 2, 0, 255);
        Check.same("REFUSED at first", other.bank(6), 0);
        other.open(0, 1);
        Check.same("after one that was REFUSED", other.knock(), 2);
        other.open(0, 255);
        Check.same("after one that was OPENED", other.knock(), 3);
        other.lie(0, 1);
        other.open(0, 7);
        Check.same("after one that FAILED", other.knock(), 4);
        Check.same("ENTRIES: a knock is no opening", other.bank(4), 4);
        Check.same("FAILED", other.bank(7), 1);
    }
}

/** Promises 8 to 11: freeze, pass, open, knock. */
public final class DoorsTest {
    public static void main(String[] args) {
        courtsFreeze();
        wrongFreezesAreRefused();
        daysGoBy();
        wrongDaysAreRefused();
        theDoorRefuses();
        aGroupThatIsNotGoodFails();
        liarsAreNoted();
        openingsAreEntries();
        wrongOpeningsAreRefused();
        knocksAreCounted();
        Check.end();
    }

    private static void courtsFreeze() {
        Threeboxes bank = Banks.ofFive();
        bank.deal(1, 1, 1, 0, 1);
        Check.same("freeze(1, 0, true)", bank.freeze(1, 0, true), 1);
        Check.same("freeze(1, 0, true) again", bank.freeze(1, 0, true), 1);
        Check.same("freeze(0, 0, true)", bank.freeze(0, 0, true), 2);
        Check.same("another secret", bank.ofSecret(1, 6), 0);
        Check.same("freeze(1, 0, false)", bank.freeze(1, 0, false), 1);
        Check.same("freeze(1, 0, false) again", bank.freeze(1, 0, false), 1);
        Check.same("frozen by 0", bank.open(0, 31), -1);
        Check.same("freeze(0, 0, false)", bank.freeze(0, 0, false), 0);
        Check.same("not frozen", bank.open(0, 31), 42);
        Check.same("ENTRIES: a court writes none", bank.bank(4), 4);
    }

    private static void wrongFreezesAreRefused() {
        Threeboxes bank = Banks.ofFive();
        bank.freeze(1, 0, true);
        Check.noIndex("freeze(2, 0, true)", bank, () -> bank.freeze(2, 0, true));
        Check.noIndex("freeze(-1, 0, true)", bank, () -> bank.freeze(-1, 0, true));
        Check.noIndex("freeze(0, 1, true)", bank, () -> bank.freeze(0, 1, true));
        Check.noIndex("freeze(0, -1, true)", bank, () -> bank.freeze(0, -1, true));
    }

    private static void daysGoBy() {
        Threeboxes bank = new Threeboxes();
        Check.same("pass(1)", bank.pass(1), 1);
        Check.same("pass(365)", bank.pass(365), 366);
        Check.same("pass(365)", bank.pass(365), 731);
        Check.noState("pass(269)", bank, () -> bank.pass(269));
        Check.same("pass(268)", bank.pass(268), 999);
        Check.noState("pass(1) on the last day", bank, () -> bank.pass(1));
        Check.same("DAY", bank.bank(2), 999);
        Check.same("ENTRIES: days write none", bank.bank(4), 0);
    }

    private static void wrongDaysAreRefused() {
        Threeboxes bank = new Threeboxes();
        bank.pass(365);
        bank.pass(365);
        bank.pass(200);
        Check.noArgument("pass(0)", bank, () -> bank.pass(0));
        Check.noArgument("pass(-1)", bank, () -> bank.pass(-1));
        Check.noArgument("pass(366)", bank, () -> bank.pass(366));
        Check.noArgument("pass(2147483647)", bank, () -> bank.pass(Integer.MAX_VALUE));
    }

    private static void theDoorRefuses() {
        Threeboxes bank = Banks.ofZones(0, 0, 1, 1, 2);
        bank.deal(42, 3, 2, 30, 31);
        Check.same("ahead of the date", bank.open(0, 31), -1);
        bank.pass(29);
        Check.same("a day ahead of the date", bank.open(0, 31), -1);
        bank.pass(1);
        Check.same("on the date", bank.open(0, 31), 42);
        Check.same("of one zone", bank.open(0, 3), -1);
        Check.same("nobody", bank.open(0, 0), -1);
        bank.freeze(1, 0, true);
        Check.same("frozen", bank.open(0, 31), -1);
        bank.freeze(1, 0, false);
        Check.same("of two zones", bank.open(0, 7), 42);
        bank.flood(1);
        Check.same("who has no share does not count for the zones", bank.open(0, 0b00111), -1);
        Check.same("REFUSED", bank.bank(6), 6);
        Check.same("FAILED", bank.bank(7), 0);
    }

    private static void aGroupThatIsNotGoodFails() {
        Threeboxes bank = Banks.ofFive();
        Check.same("fewer than the threshold", bank.open(0, 0b00101), -2);
        bank.lie(0, 5);
        Check.same("four with a liar", bank.open(0, 15), -2);
        Check.same("nobody is noted", bank.bank(9), 0);
        bank.lie(1, 7);
        Check.same("five with two liars", bank.open(0, 31), -2);
        Check.same("FAILED", bank.bank(7), 3);
        Check.same("REFUSED", bank.bank(6), 0);
    }

    private static void liarsAreNoted() {
        Threeboxes bank = Banks.ofFive();
        bank.lie(3, 1);
        Check.same("five with a liar", bank.open(0, 31), 42);
        for (int k = 0; k < 5; k++) {
            Check.same("NOTED " + k, bank.ofKeeper(k, 4), k == 3 ? 1 : 0);
        }
        bank.lie(3, 0);
        Check.same("five without one", bank.open(0, 31), 42);
        Check.same("who is noted stays so", bank.ofKeeper(3, 4), 1);
        bank.lie(0, 96);
        Check.same("five with another liar", bank.open(0, 31), 42);
        Check.same("NOTED", bank.bank(9), 2);
        // At 0 a curve of the order 3 has 3 a - 3 b + c: of 56, 96, 62 that is -58.
        Check.same("three with a liar: a wrong number", bank.open(0, 7), 39);
    }

    private static void openingsAreEntries() {
        Threeboxes bank = Banks.ofFive();
        bank.pass(1);
        bank.open(0, 31);
        bank.open(0, 1);
        bank.open(0, 5);
        Check.same("ENTRIES", bank.bank(4), 4);
        for (int e = 1; e <= 3; e++) {
            Check.same("KIND of " + e, bank.ofEntry(e, 0), 3 + e);
            Check.same("SECRET of " + e, bank.ofEntry(e, 1), 0);
            Check.same("DAY of " + e, bank.ofEntry(e, 2), 1);
            Check.same("LEAF of " + e, bank.ofEntry(e, 3), (3 + e) * 1009 + 7 + e);
        }
    }

    private static void wrongOpeningsAreRefused() {
        Threeboxes bank = Banks.ofFive();
        Check.noIndex("open(1, 31)", bank, () -> bank.open(1, 31));
        Check.noIndex("open(-1, 31)", bank, () -> bank.open(-1, 31));
        Check.noIndex("open(1, 32)", bank, () -> bank.open(1, 32));
        Check.noArgument("open(0, 32)", bank, () -> bank.open(0, 32));
        Check.noArgument("open(0, -1)", bank, () -> bank.open(0, -1));
    }

    private static void knocksAreCounted() {
        Threeboxes bank = Banks.ofFive();
        Check.same("knock()", bank.knock(), 1);
        bank.open(0, 1);
        Check.same("knock() after one that was refused", bank.knock(), 3);
        bank.open(0, 5);
        Check.same("knock() after one that failed", bank.knock(), 4);
        Check.same("REFUSED", bank.bank(6), 4);
        Check.same("ENTRIES: a knock is no opening", bank.bank(4), 3);
    }
}

/** Promise 7: rebuild. */
public final class RebuildTest {
    public static void main(String[] args) {
        aLostShareIsRebuilt();
        aStaleShareIsRebuilt();
        oneThatNeverHadAShareGetsOne();
        theKeeperItselfDoesNotHelp();
        liarsAreOvercome();
        aRebuildingIsAnEntry();
        wrongCallsAreRefused();
        Check.end();
    }

    private static void aLostShareIsRebuilt() {
        Threeboxes bank = Banks.ofFive();
        bank.flood(1);
        Check.same("rebuild(0, 2, 19)", bank.rebuild(0, 2, 19), 9);
        Banks.checkShares("rebuilt", bank, 0, 57, 96, 62, -1, 66);
        Check.same("rebuild(0, 3, 31): four help", bank.rebuild(0, 3, 31), 16);
        Banks.checkShares("rebuilt", bank, 0, 57, 96, 62, 52, 66);
        Check.same("MESSAGES", bank.bank(8), 25);
    }

    private static void aStaleShareIsRebuilt() {
        Threeboxes bank = Banks.ofFive();
        bank.fresh(0, 7);
        // Stale ones among the helpers are not of the group.
        Check.same("rebuild(0, 4, 31)", bank.rebuild(0, 4, 31), 9);
        Check.same("SHARE", bank.share(0, 4, 0), 90);
        Check.same("its EPOCH", bank.share(0, 4, 1), 1);
        Check.same("row", bank.row(0), "oooso");
    }

    private static void oneThatNeverHadAShareGetsOne() {
        Threeboxes bank = Banks.ofZones(0, 1, 2, 3, 0, 1, 2, 3);
        bank.deal(90, 2, 4, 500, 3);
        bank.freeze(0, 0, true);
        Check.same("rebuild(0, 7, 3): neither zones nor date nor courts matter", bank.rebuild(0, 7, 3), 4);
        Check.same("SHARE", bank.share(0, 7, 0), (90 + 3 * 8) % 97);
        Check.same("row", bank.row(0), "oo.....o!");
    }

    private static void theKeeperItselfDoesNotHelp() {
        Threeboxes bank = Banks.ofZones(0, 1, 2);
        bank.deal(5, 1, 1, 0, 3);
        bank.fresh(0, 1);
        Check.same("rebuild(0, 1, 3)", bank.rebuild(0, 1, 3), 1);
        Check.same("rebuild(0, 2, 7)", bank.rebuild(0, 2, 7), 4);
        Check.same("MESSAGES", bank.bank(8), 5);
    }

    private static void liarsAreOvercome() {
        Threeboxes bank = Banks.ofZones(0, 1, 2, 3, 0, 1);
        bank.deal(42, 3, 1, 0, 31);
        bank.lie(0, 50);
        Check.same("rebuild(0, 5, 31)", bank.rebuild(0, 5, 31), 25);
        Check.same("SHARE", bank.share(0, 5, 0), (42 + 3 * 6 + 12 * 36) % 97);
        Check.same("a liar is not noted by that", bank.bank(9), 0);
        Check.same("isSound()", bank.isSound(), true);
        bank.flood(1);
        bank.lie(5, 9);
        Check.noState("four with a liar are not good", bank, () -> bank.rebuild(0, 5, 31));
        Check.same("three with a liar are good, and wrong", bank.rebuild(0, 5, 0b01101), 9);
        Check.same("SHARE is not that", bank.share(0, 5, 0) != (42 + 3 * 6 + 12 * 36) % 97, true);
        Check.same("its own lie is no part of it", bank.share(0, 5, 2), (bank.share(0, 5, 0) + 9) % 97);
    }

    private static void aRebuildingIsAnEntry() {
        Threeboxes bank = Banks.ofFive();
        bank.flood(0);
        bank.pass(20);
        bank.rebuild(0, 0, 31);
        Check.same("ENTRIES", bank.bank(4), 3);
        Check.same("KIND", bank.ofEntry(2, 0), 3);
        Check.same("SECRET", bank.ofEntry(2, 1), 0);
        Check.same("DAY", bank.ofEntry(2, 2), 20);
        Check.same("LEAF", bank.ofEntry(2, 3), 3027 + 140 + 2);
    }

    private static void wrongCallsAreRefused() {
        Threeboxes bank = Banks.ofFive();
        bank.flood(1);
        Check.noIndex("rebuild(1, 2, 31)", bank, () -> bank.rebuild(1, 2, 31));
        Check.noIndex("rebuild(-1, 2, 31)", bank, () -> bank.rebuild(-1, 2, 31));
        Check.noIndex("rebuild(0, 5, 31)", bank, () -> bank.rebuild(0, 5, 31));
        Check.noIndex("rebuild(0, -1, 31)", bank, () -> bank.rebuild(0, -1, 31));
        Check.noIndex("rebuild(0, 5, 32)", bank, () -> bank.rebuild(0, 5, 32));
        Check.noArgument("rebuild(0, 2, 32)", bank, () -> bank.rebuild(0, 2, 32));
        Check.noArgument("rebuild(0, 2, -1)", bank, () -> bank.rebuild(0, 2, -1));
        Check.noArgument("rebuild(0, 0, 32)", bank, () -> bank.rebuild(0, 0, 32));
        Check.noState("rebuild(0, 0, 31): it has one", bank, () -> bank.rebuild(0, 0, 31));
        Check.noState("rebuild(0, 2, 3): too few", bank, () -> bank.rebuild(0, 2, 3));
        Check.noState("rebuild(0, 2, 0): nobody", bank, () -> bank.rebuild(0, 2, 0));
    }
}

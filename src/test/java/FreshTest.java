/** Promise 5: fresh. */
public final class FreshTest {
    public static void main(String[] args) {
        aCurveIsAdded();
        theOthersAreStale();
        staleOnesDoNotCount();
        aThresholdOfOneDrawsNothing();
        aFresheningIsAnEntry();
        wrongCallsAreRefused();
        Check.end();
    }

    private static void aCurveIsAdded() {
        Threeboxes bank = Banks.ofFive();
        // Drawn are 4 and 70: 0 + 4x + 70xx is 74, 94, 60, 69, 24.
        Check.same("fresh(0, 31)", bank.fresh(0, 31), 0);
        Check.same("LUCK", bank.bank(3), 187);
        Banks.checkShares("fresh", bank, 0, 131 - 97, 190 - 97, 122 - 97, 121 - 97, 90);
        Check.same("EPOCH", bank.ofSecret(0, 3), 1);
        Check.same("EPOCH of a SHARE", bank.share(0, 0, 1), 1);
        Check.same("open", bank.open(0, 31), 42);
    }

    private static void theOthersAreStale() {
        Threeboxes bank = Banks.ofFive();
        Check.same("fresh(0, 7)", bank.fresh(0, 7), 2);
        Check.same("row", bank.row(0), "oooss");
        Banks.checkShares("stale ones stay", bank, 0, 34, 93, 25, 52, 66);
        Check.same("EPOCH of a stale one", bank.share(0, 3, 1), 0);
        Check.same("what a stale one gives", bank.share(0, 3, 2), 52);
        Check.same("STALE ones", bank.bank(11), 2);
        Check.same("those that are not", bank.bank(10), 3);
        Check.same("the set of those", bank.ofSecret(0, 4), 7);
        Check.same("the set of stale ones", bank.ofSecret(0, 5), 24);
        Check.same("fresh of the same: stale ones stay stale", bank.fresh(0, 31), 2);
        Check.same("EPOCH", bank.ofSecret(0, 3), 2);
        Check.same("row", bank.row(0), "oooss");
        Check.same("open by the fresh", bank.open(0, 7), 42);
        bank.deal(1, 1, 1, 0, 31);
        bank.flood(2);
        Check.same("a lost one is not stale", bank.fresh(0, 7), 1);
        Check.same("another secret is as it was", bank.row(1), "oooo.");
    }

    private static void staleOnesDoNotCount() {
        Threeboxes bank = Banks.ofFive();
        bank.fresh(0, 7);
        Check.noState("two that count and two stale ones", bank, () -> bank.fresh(0, 0b11011));
        bank.flood(0);
        Check.noState("one that counts", bank, () -> bank.fresh(0, 31));
    }

    private static void aThresholdOfOneDrawsNothing() {
        Threeboxes bank = Banks.ofZones(0, 0, 0);
        bank.deal(7, 1, 1, 0, 3);
        Check.same("fresh(0, 5)", bank.fresh(0, 5), 1);
        Check.same("LUCK", bank.bank(3), 23);
        Banks.checkShares("fresh", bank, 0, 7, 7, -1);
        Check.same("row", bank.row(0), "os.");
        Check.same("EPOCH", bank.ofSecret(0, 3), 1);
    }

    private static void aFresheningIsAnEntry() {
        Threeboxes bank = Banks.ofFive();
        bank.deal(1, 2, 1, 0, 3);
        bank.pass(9);
        bank.fresh(1, 3);
        Check.same("ENTRIES", bank.bank(4), 3);
        Check.same("KIND", bank.ofEntry(2, 0), 1);
        Check.same("SECRET", bank.ofEntry(2, 1), 1);
        Check.same("DAY", bank.ofEntry(2, 2), 9);
        Check.same("LEAF", bank.ofEntry(2, 3), 1009 + 31 + 63 + 2);
    }

    private static void wrongCallsAreRefused() {
        Threeboxes bank = Banks.ofFive();
        Check.noIndex("fresh(1, 31)", bank, () -> bank.fresh(1, 31));
        Check.noIndex("fresh(-1, 31)", bank, () -> bank.fresh(-1, 31));
        Check.noIndex("fresh(1, 32)", bank, () -> bank.fresh(1, 32));
        Check.noArgument("fresh(0, 32)", bank, () -> bank.fresh(0, 32));
        Check.noArgument("fresh(0, -1)", bank, () -> bank.fresh(0, -1));
        Check.noState("fresh(0, 3)", bank, () -> bank.fresh(0, 3));
        Check.noState("fresh(0, 0)", bank, () -> bank.fresh(0, 0));
    }
}

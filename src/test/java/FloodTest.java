/** Promise 6: flood. */
public final class FloodTest {
    public static void main(String[] args) {
        allSharesThereAreLost();
        staleOnesAreLostToo();
        aFloodIsAnEntry();
        wrongZonesAreRefused();
        Check.end();
    }

    private static void allSharesThereAreLost() {
        Threeboxes bank = Banks.ofFive();
        bank.deal(1, 1, 1, 0, 0b00110);
        Check.same("flood(3)", bank.flood(3), 0);
        Check.same("row(0)", bank.row(0), "ooooo");
        Check.same("flood(1)", bank.flood(1), 3);
        Check.same("row(0)", bank.row(0), "oo..o");
        Check.same("row(1)", bank.row(1), ".o...");
        Check.same("SHARE", bank.share(0, 2, 0), -1);
        Check.same("its EPOCH", bank.share(0, 2, 1), -1);
        Check.same("what it GIVES", bank.share(0, 2, 2), -1);
        Check.same("flood(1) again", bank.flood(1), 0);
        Check.same("SHARES of a keeper there", bank.ofKeeper(2, 5), 0);
        Check.same("SHARES of another", bank.ofKeeper(1, 5), 2);
    }

    private static void staleOnesAreLostToo() {
        Threeboxes bank = Banks.ofFive();
        bank.fresh(0, 7);
        Check.same("flood(2)", bank.flood(2), 1);
        Check.same("flood(1)", bank.flood(1), 2);
        Check.same("row", bank.row(0), "oo...");
        Check.same("STALE ones", bank.bank(11), 0);
    }

    private static void aFloodIsAnEntry() {
        Threeboxes bank = Banks.ofZones(0);
        bank.pass(10);
        Check.same("flood(3) without shares", bank.flood(3), 0);
        Check.same("ENTRIES", bank.bank(4), 1);
        Check.same("KIND", bank.ofEntry(0, 0), 2);
        Check.same("ZONE", bank.ofEntry(0, 1), 3);
        Check.same("DAY", bank.ofEntry(0, 2), 10);
        Check.same("LEAF", bank.ofEntry(0, 3), 2018 + 93 + 70);
    }

    private static void wrongZonesAreRefused() {
        Threeboxes bank = Banks.ofFive();
        Check.noIndex("flood(4)", bank, () -> bank.flood(4));
        Check.noIndex("flood(-1)", bank, () -> bank.flood(-1));
    }
}

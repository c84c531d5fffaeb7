/** Promise 4: deal. */
public final class DealTest {
    public static void main(String[] args) {
        sharesAreOnTheCurve();
        onlyThoseOfTheSetHaveShares();
        luckGoesOnFromSecretToSecret();
        aDealIsAnEntry();
        wrongDealsAreRefused();
        noSeventhSecret();
        Check.end();
    }

    private static void sharesAreOnTheCurve() {
        Threeboxes bank = Banks.ofFive();
        Banks.checkShares("deal", bank, 0, 57, 96, 62, 52, 66);
        Check.same("LUCK after two draws", bank.bank(3), 33);
        Check.same("THRESHOLD", bank.ofSecret(0, 0), 3);
        Check.same("ZONES", bank.ofSecret(0, 1), 2);
        Check.same("DATE", bank.ofSecret(0, 2), 0);
        Check.same("EPOCH", bank.ofSecret(0, 3), 0);
        Check.same("EPOCH of a SHARE", bank.share(0, 4, 1), 0);
        Check.same("FROZEN", bank.ofSecret(0, 6), 0);
    }

    private static void onlyThoseOfTheSetHaveShares() {
        Threeboxes bank = Banks.ofZones(0, 1, 2, 3);
        Check.same("deal", bank.deal(96, 1, 4, 999, 10), 0);
        Banks.checkShares("a THRESHOLD of 1", bank, 0, -1, 96, -1, 96);
        Check.same("row", bank.row(0), ".o.o");
        Check.same("LUCK: none is drawn", bank.bank(3), 23);
        Check.same("DATE", bank.ofSecret(0, 2), 999);
        Check.same("ZONES", bank.ofSecret(0, 1), 4);
        bank.keeper(0, 1, 0);
        Check.same("a later keeper has none", bank.share(0, 4, 0), -1);
    }

    private static void luckGoesOnFromSecretToSecret() {
        Threeboxes bank = Banks.ofZones(0, 1, 2, 3, 0, 1, 2, 3);
        // LUCK becomes 10, 33, 12, 187, 94, 101: drawn are 3, 12, 4, then 70, then 35, 38.
        Check.same("deal 0", bank.deal(0, 4, 1, 0, 255), 0);
        Check.same("LUCK", bank.bank(3), 12);
        Banks.checkShares("0 + 3x + 12xx + 4xxx", bank, 0,
            19, 86, 225 - 194, 460 - 388, 815 - 776, 1314 - 1261, 1981 - 1940, 2840 - 2813);
        Check.same("deal 1", bank.deal(90, 2, 1, 0, 3), 1);
        Check.same("LUCK", bank.bank(3), 187);
        Banks.checkShares("90 + 70x", bank, 1, 160 - 97, 230 - 194, -1);
        Check.same("deal 2", bank.deal(1, 3, 1, 0, 0b10010100), 2);
        Check.same("LUCK", bank.bank(3), 101);
        Banks.checkShares("1 + 35x + 38xx", bank, 2, -1, -1, 448 - 388, -1, 1126 - 1067, -1, -1, 2713 - 2619);
    }

    private static void aDealIsAnEntry() {
        Threeboxes bank = Banks.ofZones(0, 1);
        bank.pass(100);
        bank.deal(5, 1, 1, 0, 1);
        bank.deal(5, 2, 1, 0, 3);
        Check.same("ENTRIES", bank.bank(4), 2);
        Check.same("KIND", bank.ofEntry(1, 0), 0);
        Check.same("SECRET", bank.ofEntry(1, 1), 1);
        Check.same("DAY", bank.ofEntry(1, 2), 100);
        Check.same("LEAF", bank.ofEntry(1, 3), 31 + 700 + 1);
    }

    private static void wrongDealsAreRefused() {
        Threeboxes bank = Banks.ofZones(0, 1, 2);
        bank.deal(1, 2, 2, 0, 7);
        int[][] wrong = {{-1, 1, 1, 0, 7}, {97, 1, 1, 0, 7}, {0, 0, 1, 0, 7}, {0, 5, 1, 0, 7}, {0, 1, 0, 0, 7},
            {0, 1, 5, 0, 7}, {0, 1, 1, -1, 7}, {0, 1, 1, 1000, 7}, {0, 1, 1, 0, 8}, {0, 1, 1, 0, -1},
            {0, 1, 1, 0, 15}, {0, 1, 1, 0, 0}, {0, 2, 1, 0, 4}, {0, 3, 1, 0, 6}, {0, 4, 1, 0, 7},
            {0, 1, 1, 0, 256}, {0, 1, 1, 0, Integer.MIN_VALUE}, {0, 1, 1, 0, Integer.MAX_VALUE}};
        for (int[] it : wrong) {
            Check.noArgument("deal(" + it[0] + ", " + it[1] + ", " + it[2] + ", " + it[3] + ", " + it[4] + ")", bank,
                () -> bank.deal(it[0], it[1], it[2], it[3], it[4]));
        }
        Threeboxes none = new Threeboxes();
        Check.noArgument("deal to nobody", none, () -> none.deal(0, 1, 1, 0, 0));
        Check.noArgument("deal without keepers", none, () -> none.deal(0, 1, 1, 0, 1));
    }

    private static void noSeventhSecret() {
        Threeboxes bank = Banks.ofZones(0, 1);
        for (int s = 0; s < 6; s++) {
            Check.same("deal " + s, bank.deal(s, 2, 1, 0, 3), s);
        }
        Check.noState("the seventh secret", bank, () -> bank.deal(0, 2, 1, 0, 3));
        Check.noArgument("a wrong seventh secret", bank, () -> bank.deal(0, 2, 1, 0, 4));
        Check.noArgument("a seventh secret to too few", bank, () -> bank.deal(0, 2, 1, 0, 1));
    }
}

/** The boundaries of "Keepers and secrets". */
public final class SecretBoundsTest {
    public static void main(String[] args) {
        keepersAreEightAtMost();
        keepersHaveTheLastOfEach();
        aLieIsZeroAtFirst();
        aPointIsTheNumberAndOne();
        secretsAreSixAtMost();
        secretsHaveTheLastOfEach();
        aSecretIsDealtToThresholdOrMore();
        theEpochIsZeroAtFirst();
        thresholdOrMoreMustCount();
        onlyThoseCountThatAreNotStale();
        allOthersAreStale();
        aThresholdOfOneDrawsNone();
        aStaleOneStaysSo();
        aLostShareIsNone();
        aFloodTakesAllSharesThere();
        aFloodTakesNoOthers();
        Check.end();
    }

    private static Threeboxes ofEight() {
        return Banks.ofZones(0, 1, 2, 3, 0, 1, 2, 3);
    }

    /** Eight keepers of the zone 0. */
    private static Threeboxes ofOneZone() {
        return Banks.ofZones(0, 0, 0, 0, 0, 0, 0, 0);
    }

    private static void keepersAreEightAtMost() {
        Threeboxes bank = new Threeboxes();
        for (int k = 0; k < 8; k++) {
            Check.same("KEEPERS ahead of " + k, bank.bank(0), k);
            Check.same("keeper", bank.keeper(3, 99, 100), k);
        }
        Check.same("KEEPERS", bank.bank(0), 8);
        Check.noState("a ninth", bank, () -> bank.keeper(3, 99, 100));
        Check.noState("a ninth of the least", bank, () -> bank.keeper(0, 1, 0));
        for (int[] it : new int[][] {{-1, 1, 0}, {4, 1, 0}, {0, 0, 0}, {0, 100, 0}, {0, 1, -1}, {0, 1, 101}}) {
            Check.noArgument("a wrong ninth", bank, () -> bank.keeper(it[0], it[1], it[2]));
        }
        Check.same("KEEPERS after that", bank.bank(0), 8);
    }

    private static void keepersHaveTheLastOfEach() {
        Threeboxes bank = new Threeboxes();
        for (int zone : new int[] {0, 3}) {
            for (int price : new int[] {1, 99}) {
                for (int risk : new int[] {0, 100}) {
                    int k = bank.keeper(zone, price, risk);
                    Check.same("ZONE", bank.ofKeeper(k, 0), zone);
                    Check.same("PRICE", bank.ofKeeper(k, 1), price);
                    Check.same("RISK", bank.ofKeeper(k, 2), risk);
                }
            }
        }
        Check.same("KEEPERS", bank.bank(0), 8);
    }

    private static void aLieIsZeroAtFirst() {
        Threeboxes bank = ofEight();
        for (int k = 0; k < 8; k++) {
            Check.same("LIE of " + k, bank.ofKeeper(k, 3), 0);
            Check.same("lie(" + k + ", 96)", bank.lie(k, 96), 0);
            Check.same("LIE of " + k, bank.ofKeeper(k, 3), 96);
            Check.same("lie(" + k + ", 0)", bank.lie(k, 0), 96);
            Check.same("LIE of " + k, bank.ofKeeper(k, 3), 0);
        }
    }

    /** No share is made at the point 0, which would be the VALUE. */
    private static void aPointIsTheNumberAndOne() {
        Threeboxes bank = ofEight();
        bank.deal(0, 2, 1, 0, 255);
        for (int k = 0; k < 8; k++) {
            Check.same("SHARE of " + k + ": 3 is drawn", bank.share(0, k, 0), 3 * (k + 1));
        }
    }

    private static void secretsAreSixAtMost() {
        Threeboxes bank = ofEight();
        for (int s = 0; s < 6; s++) {
            Check.same("SECRETS ahead of " + s, bank.bank(1), s);
            Check.same("deal", bank.deal(96, 4, 4, 999, 255), s);
        }
        Check.same("SECRETS", bank.bank(1), 6);
        Check.noState("a seventh", bank, () -> bank.deal(96, 4, 4, 999, 255));
        Check.noState("a seventh of the least", bank, () -> bank.deal(0, 1, 1, 0, 1));
        int[][] wrong = {{-1, 1, 1, 0, 1}, {97, 1, 1, 0, 1}, {0, 0, 1, 0, 1}, {0, 5, 1, 0, 255}, {0, 1, 0, 0, 1},
            {0, 1, 5, 0, 1}, {0, 1, 1, -1, 1}, {0, 1, 1, 1000, 1}, {0, 1, 1, 0, -1}, {0, 1, 1, 0, 256},
            {0, 1, 1, 0, 0}, {0, 4, 1, 0, 7}};
        for (int[] it : wrong) {
            Check.noArgument("a wrong seventh", bank, () -> bank.deal(it[0], it[1], it[2], it[3], it[4]));
        }
        Check.same("SECRETS after that", bank.bank(1), 6);
        Check.same("LUCK after that: 18 were drawn", bank.bank(3), 177);
    }

    private static void secretsHaveTheLastOfEach() {
        for (int value : new int[] {0, 96}) {
            for (int t : new int[] {1, 4}) {
                Threeboxes bank = ofEight();
                bank.deal(value, t, 1, 0, 255);
                bank.deal(value, t, 4, 999, 255);
                Check.same("THRESHOLD", bank.ofSecret(1, 0), t);
                Check.same("ZONES of the first", bank.ofSecret(0, 1), 1);
                Check.same("ZONES", bank.ofSecret(1, 1), 4);
                Check.same("DATE of the first", bank.ofSecret(0, 2), 0);
                Check.same("DATE", bank.ofSecret(1, 2), 999);
                Check.same("VALUE", bank.open(0, 255), value);
            }
        }
    }

    private static void aSecretIsDealtToThresholdOrMore() {
        for (int t = 1; t <= 4; t++) {
            int threshold = t;
            for (int n = 0; n <= 8; n++) {
                int set = (1 << n) - 1;
                Threeboxes bank = ofEight();
                if (n < t) {
                    Check.noArgument(n + " of the order " + t, bank, () -> bank.deal(5, threshold, 1, 0, set));
                } else {
                    Check.same(n + " of the order " + t, bank.deal(5, t, 1, 0, set), 0);
                    Check.same("who has a share", bank.ofSecret(0, 4), set);
                    Check.same("who has a stale one", bank.ofSecret(0, 5), 0);
                }
            }
        }
    }

    private static void theEpochIsZeroAtFirst() {
        Threeboxes bank = ofEight();
        bank.deal(5, 2, 1, 0, 255);
        bank.fresh(0, 255);
        bank.deal(5, 2, 1, 0, 0b10000001);
        Check.same("EPOCH of another", bank.ofSecret(0, 3), 1);
        Check.same("EPOCH at first", bank.ofSecret(1, 3), 0);
        Check.same("of the first share", bank.share(1, 0, 1), 0);
        Check.same("of the last share", bank.share(1, 7, 1), 0);
        Check.same("of a keeper without one", bank.share(1, 1, 1), -1);
    }

    private static void thresholdOrMoreMustCount() {
        for (int t = 1; t <= 4; t++) {
            for (int n = 0; n <= 8; n++) {
                int set = 256 - (1 << 8 - n);
                Threeboxes bank = ofEight();
                bank.deal(5, t, 1, 0, 255);
                if (n < t) {
                    Check.noState(n + " of the order " + t, bank, () -> bank.fresh(0, set));
                } else {
                    Check.same(n + " of the order " + t, bank.fresh(0, set), 8 - n);
                    Check.same("who has a fresh one", bank.ofSecret(0, 4), set);
                    Check.same("who has a stale one", bank.ofSecret(0, 5), 255 - set);
                    Check.same("EPOCH", bank.ofSecret(0, 3), 1);
                    Check.same("VALUE", bank.would(0, 255, 3), 5);
                }
            }
        }
    }

    private static void onlyThoseCountThatAreNotStale() {
        Threeboxes bank = ofEight();
        bank.deal(5, 3, 1, 0, 0b00011111);
        bank.fresh(0, 0b00001111);
        Check.noState("two, a stale one and one without", bank, () -> bank.fresh(0, 0b00110011));
        Check.same("three, a stale one and three without: no error", bank.fresh(0, 0b11110111), 2);
        Check.same("only the three are fresh", bank.ofSecret(0, 4), 7);
        bank.flood(0);
        Check.noState("one of the three is lost", bank, () -> bank.fresh(0, 255));
    }

    private static void allOthersAreStale() {
        Threeboxes bank = ofEight();
        bank.deal(5, 1, 1, 0, 255);
        bank.deal(5, 1, 1, 0, 255);
        Check.same("all but one", bank.fresh(0, 0b10000000), 7);
        Check.same("none of those that are awake", bank.fresh(1, 255), 0);
        Check.same("STALE ones", bank.bank(11), 7);
        Check.same("others", bank.bank(10), 9);
    }

    private static void aThresholdOfOneDrawsNone() {
        Threeboxes bank = ofEight();
        bank.deal(96, 1, 1, 0, 255);
        for (int epoch = 1; epoch <= 3; epoch++) {
            bank.fresh(0, 255);
            Check.same("LUCK", bank.bank(3), 23);
            Check.same("EPOCH", bank.ofSecret(0, 3), epoch);
            Check.same("SHARE", bank.share(0, 7, 0), 96);
            Check.same("its EPOCH", bank.share(0, 7, 1), epoch);
        }
    }

    private static void aStaleOneStaysSo() {
        Threeboxes bank = ofEight();
        bank.deal(5, 2, 1, 0, 7);
        int share = bank.share(0, 2, 0);
        bank.fresh(0, 3);
        for (int epoch = 2; epoch <= 4; epoch++) {
            Check.same("fresh", bank.fresh(0, 7), 1);
            Check.same("EPOCH of the secret", bank.ofSecret(0, 3), epoch);
            Check.same("EPOCH of the stale one", bank.share(0, 2, 1), 0);
            Check.same("the stale one", bank.share(0, 2, 0), share);
            Check.same("row", bank.row(0), "oos.....");
        }
    }

    private static void aLostShareIsNone() {
        Threeboxes bank = ofEight();
        bank.deal(5, 2, 1, 0, 255);
        bank.fresh(0, 0b11101111);
        bank.lie(0, 7);
        Check.same("a flood of two, one of them stale", bank.flood(0), 2);
        for (int k : new int[] {0, 4}) {
            for (int what = 0; what <= 2; what++) {
                Check.same("share(0, " + k + ", " + what + ")", bank.share(0, k, what), -1);
            }
            Check.same("SHARES", bank.ofKeeper(k, 5), 0);
            Check.same("STALE ones", bank.ofKeeper(k, 6), 0);
        }
        Check.same("row", bank.row(0), ".ooo.ooo");
        Check.same("a LIE stays", bank.ofKeeper(0, 3), 7);
    }

    private static void aFloodTakesAllSharesThere() {
        Threeboxes bank = ofOneZone();
        for (int s = 0; s < 6; s++) {
            bank.deal(s, 4, 1, 0, 255);
        }
        Check.same("a flood where nobody is", bank.flood(3), 0);
        Check.same("a flood where all are: of six secrets eight shares", bank.flood(0), 48);
        Check.same("SHARES", bank.bank(10) + bank.bank(11), 0);
        for (int s = 0; s < 6; s++) {
            Check.same("row", bank.row(s), "........");
        }
        Check.same("another flood", bank.flood(0), 0);
        Check.same("ENTRIES", bank.bank(4), 9);
        Check.same("SECRETS stay", bank.bank(1), 6);
        Check.same("KEEPERS stay", bank.bank(0), 8);
        Check.same("opened by nobody", bank.open(0, 255), -1);
    }

    private static void aFloodTakesNoOthers() {
        for (int zone = 0; zone <= 3; zone++) {
            Threeboxes bank = ofEight();
            for (int s = 0; s < 6; s++) {
                bank.deal(s, 4, 1, 0, 255);
            }
            Check.same("a flood of the zone " + zone, bank.flood(zone), 12);
            for (int s = 0; s < 6; s++) {
                Check.same("who has a share", bank.ofSecret(s, 4), 255 - (0b10001 << zone));
            }
        }
    }
}

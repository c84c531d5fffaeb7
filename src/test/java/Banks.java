/** Banks that several tests begin with. */
final class Banks {
    private Banks() {
    }

    /** A bank with keepers of the zones, each of the price 10 and the risk 10. */
    static Threeboxes ofZones(int... zones) {
        Threeboxes bank = new Threeboxes();
        for (int zone : zones) {
            bank.keeper(zone, 10, 10);
        }
        return bank;
    }

    /** Five keepers in the zones 0, 0, 1, 1, 2, and the secret 42 + 3 x + 12 x x: 57, 96, 62, 52, 66. */
    static Threeboxes ofFive() {
        Threeboxes bank = ofZones(0, 0, 1, 1, 2);
        bank.deal(42, 3, 2, 0, 31);
        return bank;
    }

    /** Days go by up to that day. */
    static void goTo(Threeboxes bank, int day) {
        for (int left = day - bank.bank(2); left > 0; left -= 365) {
            bank.pass(Math.min(365, left));
        }
    }

    static void checkShares(String when, Threeboxes bank, int secret, int... due) {
        for (int k = 0; k < due.length; k++) {
            Check.same(when + ": SHARE of " + k, bank.share(secret, k, 0), due[k]);
        }
    }
}

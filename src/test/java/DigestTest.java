/** Promise 25: digest. */
public final class DigestTest {
    private static long d;

    public static void main(String[] args) {
        Threeboxes bank = new Threeboxes();
        check("a new bank", bank);
        for (int k = 0; k < 8; k++) {
            bank.keeper(k % 4, 10 + k, 10 * k);
        }
        check("keepers", bank);
        bank.deal(42, 3, 2, 30, 31);
        bank.deal(96, 4, 4, 0, 255);
        bank.deal(0, 1, 1, 0, 128);
        check("secrets", bank);
        bank.lie(0, 5);
        bank.open(1, 255);
        bank.open(0, 31);
        bank.fresh(0, 15);
        bank.freeze(1, 2, true);
        bank.pass(200);
        check("later", bank);
        bank.flood(3);
        bank.rebuild(0, 4, 255);
        bank.rebuild(1, 7, 255);
        bank.knock();
        check("at the end", bank);
        Check.same("digest() changes nothing", bank.digest(), bank.digest());
        theProductIsCutToAWholeNumber();
        Check.end();
    }

    /** One keeper of each risk: 40.96 times it comes near to a whole number from below (51: 2088.96) and above. */
    private static void theProductIsCutToAWholeNumber() {
        for (int risk = 0; risk <= 100; risk++) {
            Threeboxes bank = new Threeboxes();
            bank.keeper(0, 1, risk);
            bank.deal(0, 1, 1, 0, 1);
            Check.same("LOST by a RISK of " + risk, bank.lost(0), risk / 100.0);
            check("a RISK of " + risk, bank);
        }
    }

    private static void add(long v) {
        d = d * 31 + v;
    }

    private static void check(String when, Threeboxes bank) {
        d = 7507;
        for (int what = 0; what < 12; what++) {
            add(bank.bank(what));
        }
        for (int k = 0; k < bank.bank(0); k++) {
            for (int what = 0; what < 7; what++) {
                add(bank.ofKeeper(k, what));
            }
        }
        for (int s = 0; s < bank.bank(1); s++) {
            addSecret(bank, s);
        }
        for (int e = 0; e < bank.bank(4); e++) {
            add(bank.ofEntry(e, 3));
        }
        add(bank.isSound() ? 1 : 0);
        Check.same("digest() of " + when, bank.digest(), d);
    }

    private static void addSecret(Threeboxes bank, int secret) {
        for (int what = 0; what < 9; what++) {
            add(bank.ofSecret(secret, what));
        }
        for (int k = 0; k < bank.bank(0); k++) {
            for (int what = 0; what < 3; what++) {
                add(bank.share(secret, k, what));
            }
        }
        for (int what = 0; what < 6; what++) {
            add(bank.would(secret, (1 << bank.bank(0)) - 1, what));
        }
        add(bank.fewest(secret));
        add((long) (4096 * bank.lost(secret)));
    }
}

/** Promises 12 to 18: ofKeeper, ofSecret, share, bank, ofEntry, proof, row. */
public final class AskedTest {
    public static void main(String[] args) {
        ofKeeperTells();
        ofSecretTells();
        theCheapestAreBought();
        shareTells();
        bankTells();
        ofEntryTells();
        noMoreThan64Entries();
        proofsAreBesideTheWay();
        rowsAreWritten();
        Check.end();
    }

    private static void ofKeeperTells() {
        Threeboxes bank = Banks.ofFive();
        bank.keeper(3, 77, 33);
        bank.deal(1, 1, 1, 0, 0b010001);
        bank.fresh(0, 0b00111);
        bank.lie(4, 8);
        int[] due = {2, 10, 10, 8, 0, 2, 1};
        for (int what = 0; what <= 6; what++) {
            Check.same("ofKeeper(4, " + what + ")", bank.ofKeeper(4, what), due[what]);
        }
        bank.rebuild(0, 3, 7);
        bank.rebuild(0, 4, 7);
        bank.open(0, 31);
        Check.same("NOTED", bank.ofKeeper(4, 4), 1);
        Check.same("STALE after a rebuilding", bank.ofKeeper(4, 6), 0);
        int[] last = {3, 77, 33, 0, 0, 0, 0};
        for (int what = 0; what <= 6; what++) {
            Check.same("ofKeeper(5, " + what + ")", bank.ofKeeper(5, what), last[what]);
        }
        Check.noIndex("ofKeeper(6, 0)", bank, () -> bank.ofKeeper(6, 0));
        Check.noIndex("ofKeeper(-1, 0)", bank, () -> bank.ofKeeper(-1, 0));
        Check.noIndex("ofKeeper(6, 7)", bank, () -> bank.ofKeeper(6, 7));
        Check.noArgument("ofKeeper(0, 7)", bank, () -> bank.ofKeeper(0, 7));
        Check.noArgument("ofKeeper(0, -1)", bank, () -> bank.ofKeeper(0, -1));
    }

    private static void ofSecretTells() {
        Threeboxes bank = Banks.ofFive();
        bank.deal(5, 2, 3, 77, 0b11110);
        bank.fresh(1, 0b01110);
        bank.freeze(0, 1, true);
        int[] due = {2, 3, 77, 1, 0b01110, 0b10000, 1, 20, 0b00110};
        for (int what = 0; what <= 8; what++) {
            Check.same("ofSecret(1, " + what + ")", bank.ofSecret(1, what), due[what]);
        }
        bank.freeze(1, 1, true);
        Check.same("FROZEN by two", bank.ofSecret(1, 6), 2);
        Check.same("another secret", bank.ofSecret(0, 6), 0);
        Check.noIndex("ofSecret(2, 0)", bank, () -> bank.ofSecret(2, 0));
        Check.noIndex("ofSecret(-1, 0)", bank, () -> bank.ofSecret(-1, 0));
        Check.noIndex("ofSecret(2, 9)", bank, () -> bank.ofSecret(2, 9));
        Check.noArgument("ofSecret(0, 9)", bank, () -> bank.ofSecret(0, 9));
        Check.noArgument("ofSecret(0, -1)", bank, () -> bank.ofSecret(0, -1));
    }

    private static void theCheapestAreBought() {
        Threeboxes bank = new Threeboxes();
        int[] prices = {30, 20, 99, 20, 1, 20, 5, 2};
        for (int k = 0; k < 8; k++) {
            bank.keeper(k % 4, prices[k], 0);
        }
        bank.deal(1, 4, 1, 0, 0b01111111);
        Check.same("for how much", bank.ofSecret(0, 7), 1 + 5 + 20 + 20);
        Check.same("of like price the smaller number", bank.ofSecret(0, 8), 0b01011010);
        bank.fresh(0, 0b00101111);
        Check.same("stale ones are not bought", bank.ofSecret(0, 7), 20 + 20 + 20 + 30);
        Check.same("who", bank.ofSecret(0, 8), 0b00101011);
        bank.flood(2);
        Check.same("of just enough", bank.ofSecret(0, 7), 20 + 20 + 20 + 30);
        Check.same("all", bank.ofSecret(0, 8), 0b00101011);
        bank.flood(1);
        Check.same("too few", bank.ofSecret(0, 7), -1);
        Check.same("nobody", bank.ofSecret(0, 8), 0);
        bank.deal(1, 1, 1, 0, 0b11000000);
        Check.same("one", bank.ofSecret(1, 7), 2);
        Check.same("the one", bank.ofSecret(1, 8), 0b10000000);
    }

    private static void shareTells() {
        Threeboxes bank = Banks.ofFive();
        bank.keeper(0, 1, 1);
        bank.lie(0, 96);
        bank.lie(1, 96);
        Check.same("SHARE", bank.share(0, 0, 0), 57);
        Check.same("EPOCH", bank.share(0, 0, 1), 0);
        Check.same("what it GIVES", bank.share(0, 0, 2), 56);
        Check.same("what 1 GIVES", bank.share(0, 1, 2), 95);
        bank.lie(1, 1);
        Check.same("96 and 1", bank.share(0, 1, 2), 0);
        for (int what = 0; what <= 2; what++) {
            Check.same("of one without", bank.share(0, 5, what), -1);
        }
        bank.lie(5, 7);
        Check.same("a liar without a share", bank.share(0, 5, 2), -1);
        bank.fresh(0, 0b11110);
        Check.same("a stale one", bank.share(0, 0, 0), 57);
        Check.same("EPOCH of a stale one", bank.share(0, 0, 1), 0);
        Check.same("what it GIVES", bank.share(0, 0, 2), 56);
        Check.same("EPOCH of a fresh one", bank.share(0, 1, 1), 1);
        Check.noIndex("share(1, 0, 0)", bank, () -> bank.share(1, 0, 0));
        Check.noIndex("share(-1, 0, 0)", bank, () -> bank.share(-1, 0, 0));
        Check.noIndex("share(0, 6, 0)", bank, () -> bank.share(0, 6, 0));
        Check.noIndex("share(0, -1, 0)", bank, () -> bank.share(0, -1, 0));
        Check.noIndex("share(0, 6, 3)", bank, () -> bank.share(0, 6, 3));
        Check.noArgument("share(0, 0, 3)", bank, () -> bank.share(0, 0, 3));
        Check.noArgument("share(0, 0, -1)", bank, () -> bank.share(0, 0, -1));
        Check.noArgument("share(0, 5, 3): without a share too", bank, () -> bank.share(0, 5, 3));
    }

    private static void bankTells() {
        Threeboxes bank = Banks.ofFive();
        bank.deal(5, 1, 1, 0, 0b00011);
        bank.pass(12);
        bank.lie(0, 1);
        bank.open(0, 31);
        bank.open(0, 3);
        bank.knock();
        bank.open(0, 5);
        bank.fresh(0, 0b01110);
        bank.rebuild(0, 4, 0b01110);
        int[] due = {5, 2, 12, 187, 7, 0, 2, 1, 9, 1, 6, 1};
        for (int what = 0; what <= 11; what++) {
            if (what != 5) {
                Check.same("bank(" + what + ")", bank.bank(what), due[what]);
            }
        }
        Check.noArgument("bank(12)", bank, () -> bank.bank(12));
        Check.noArgument("bank(-1)", bank, () -> bank.bank(-1));
    }

    private static void ofEntryTells() {
        Threeboxes bank = Banks.ofZones(0, 1);
        Check.noIndex("ofEntry(0, 0) without one", bank, () -> bank.ofEntry(0, 0));
        for (int s = 0; s < 6; s++) {
            bank.deal(s, 1, 1, 0, 3);
        }
        bank.pass(365);
        bank.pass(365);
        bank.pass(269);
        bank.freeze(0, 5, true);
        bank.open(5, 3);
        bank.freeze(0, 5, false);
        bank.lie(0, 1);
        bank.open(5, 3);
        int[] refused = {5, 5, 999, (5045 + 155 + 6993 + 6) % 9973};
        int[] failed = {6, 5, 999, (6054 + 155 + 6993 + 7) % 9973};
        for (int what = 0; what <= 3; what++) {
            Check.same("ofEntry(6, " + what + ")", bank.ofEntry(6, what), refused[what]);
            Check.same("ofEntry(7, " + what + ")", bank.ofEntry(7, what), failed[what]);
        }
        Check.same("the DAY of an entry stays", bank.ofEntry(0, 2), 0);
        Check.noIndex("ofEntry(8, 0)", bank, () -> bank.ofEntry(8, 0));
        Check.noIndex("ofEntry(-1, 0)", bank, () -> bank.ofEntry(-1, 0));
        Check.noIndex("ofEntry(8, 4)", bank, () -> bank.ofEntry(8, 4));
        Check.noArgument("ofEntry(0, 4)", bank, () -> bank.ofEntry(0, 4));
        Check.noArgument("ofEntry(0, -1)", bank, () -> bank.ofEntry(0, -1));
    }

    private static void noMoreThan64Entries() {
        Threeboxes bank = Banks.ofFive();
        for (int n = 1; n < 64; n++) {
            bank.flood(3);
        }
        Check.same("ENTRIES", bank.bank(4), 64);
        Check.same("LEAF of the last", bank.ofEntry(63, 3), 2018 + 93 + 63);
        int root = bank.bank(5);
        Check.same("open goes on", bank.open(0, 31), 42);
        Check.same("flood goes on", bank.flood(2), 1);
        Check.same("fresh goes on", bank.fresh(0, 31), 0);
        Check.same("rebuild goes on", bank.rebuild(0, 4, 15), 16);
        Check.same("deal goes on", bank.deal(3, 1, 1, 0, 1), 1);
        Check.same("refusals go on", bank.open(0, 1), -1);
        Check.same("failures go on", bank.open(0, 5), -2);
        Check.same("REFUSED", bank.bank(6), 1);
        Check.same("FAILED", bank.bank(7), 1);
        Check.same("ENTRIES", bank.bank(4), 64);
        Check.same("ROOT", bank.bank(5), root);
        Check.same("KIND of the last", bank.ofEntry(63, 0), 2);
        Check.noIndex("ofEntry(64, 0)", bank, () -> bank.ofEntry(64, 0));
        Check.noIndex("proof(64, 0)", bank, () -> bank.proof(64, 0));
        Check.noIndex("proves(64, 0)", bank, () -> bank.proves(64, 0));
        Check.same("isSound()", bank.isSound(), true);
    }

    private static void proofsAreBesideTheWay() {
        Threeboxes bank = Banks.ofZones(0);
        for (int n = 0; n < 64; n++) {
            checkTree(bank);
            bank.flood(n % 4);
        }
        checkTree(bank);
        Check.noIndex("proof(0, 6)", bank, () -> bank.proof(0, 6));
        Check.noIndex("proof(0, -1)", bank, () -> bank.proof(0, -1));
        Check.noIndex("proof(-1, 0)", bank, () -> bank.proof(-1, 0));
        Threeboxes none = new Threeboxes();
        Check.noIndex("proof(0, 0) without an entry", none, () -> none.proof(0, 0));
    }

    /** Puts the tree together row by row, as the document tells it. */
    private static void checkTree(Threeboxes bank) {
        int[] row = new int[64];
        for (int e = 0; e < bank.bank(4); e++) {
            row[e] = bank.ofEntry(e, 3);
        }
        for (int r = 0; r < 6; r++) {
            for (int e = 0; e < bank.bank(4); e++) {
                int place = e / (1 << r);
                int beside = place % 2 == 0 ? place + 1 : place - 1;
                Check.same("proof(" + e + ", " + r + ")", bank.proof(e, r), row[beside]);
            }
            int[] next = new int[row.length / 2];
            for (int k = 0; k < next.length; k++) {
                next[k] = (31 * row[2 * k] + 17 * row[2 * k + 1] + 5) % 9973;
            }
            row = next;
        }
        Check.same("ROOT", bank.bank(5), row[0]);
    }

    private static void rowsAreWritten() {
        Threeboxes bank = Banks.ofFive();
        Check.same("row", bank.row(0), "ooooo");
        bank.fresh(0, 0b10011 | 0b00100);
        bank.flood(1);
        Check.same("row", bank.row(0), "oo..o");
        bank.rebuild(0, 2, 31);
        bank.fresh(0, 0b10110);
        Check.same("row", bank.row(0), "soo.o");
        bank.freeze(0, 0, true);
        Check.same("row", bank.row(0), "soo.o!");
        bank.freeze(1, 0, true);
        Check.same("row of one frozen by two", bank.row(0), "soo.o!");
        bank.keeper(0, 1, 1);
        bank.freeze(0, 0, false);
        Check.same("row of six", bank.row(0), "soo.o.!");
        bank.freeze(1, 0, false);
        Check.same("row", bank.row(0), "soo.o.");
        Check.noIndex("row(1)", bank, () -> bank.row(1));
        Check.noIndex("row(-1)", bank, () -> bank.row(-1));
    }
}

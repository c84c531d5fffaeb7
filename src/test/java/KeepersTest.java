/** Promises 1 to 3: a new object, keeper, lie. */
public final class KeepersTest {
    public static void main(String[] args) {
        aNewBankIsEmpty();
        keepersComeOneByOne();
        wrongKeepersAreRefused();
        noNinthKeeper();
        liesAreTold();
        wrongLiesAreRefused();
        Check.end();
    }

    private static void aNewBankIsEmpty() {
        Threeboxes bank = new Threeboxes();
        for (int what = 0; what <= 11; what++) {
            if (what != 3 && what != 5) {
                Check.same("bank(" + what + ") of a new one", bank.bank(what), 0);
            }
        }
        Check.same("LUCK at first", bank.bank(3), 23);
        // Of 64 zeros each row is of like numbers: 48 times that of the row ahead, and 5.
        int node = 0;
        for (int row = 1; row <= 6; row++) {
            node = (48 * node + 5) % 9973;
        }
        Check.same("ROOT at first", bank.bank(5), node);
        Check.same("isSound() at first", bank.isSound(), true);
        Threeboxes other = new Threeboxes();
        other.keeper(1, 1, 1);
        Check.same("KEEPERS of another bank", bank.bank(0), 0);
    }

    private static void keepersComeOneByOne() {
        Threeboxes bank = new Threeboxes();
        Check.same("keeper 0", bank.keeper(0, 1, 0), 0);
        Check.same("keeper 1", bank.keeper(3, 99, 100), 1);
        Check.same("keeper 2", bank.keeper(2, 50, 7), 2);
        int[][] due = {{0, 1, 0}, {3, 99, 100}, {2, 50, 7}};
        for (int k = 0; k < 3; k++) {
            for (int what = 0; what < 3; what++) {
                Check.same("ofKeeper(" + k + ", " + what + ")", bank.ofKeeper(k, what), due[k][what]);
            }
            for (int what = 3; what <= 6; what++) {
                Check.same("ofKeeper(" + k + ", " + what + ")", bank.ofKeeper(k, what), 0);
            }
        }
        Check.same("KEEPERS", bank.bank(0), 3);
        Check.same("ENTRIES: a KEEPER is none", bank.bank(4), 0);
    }

    private static void wrongKeepersAreRefused() {
        Threeboxes bank = new Threeboxes();
        bank.keeper(0, 5, 5);
        int[][] wrong = {{-1, 1, 0}, {4, 1, 0}, {0, 0, 0}, {0, 100, 0}, {0, 1, -1}, {0, 1, 101},
            {Integer.MIN_VALUE, 1, 0}, {Integer.MAX_VALUE, 1, 0}, {0, Integer.MAX_VALUE, 0},
            {0, 1, Integer.MAX_VALUE}, {0, -5, 0}};
        for (int[] it : wrong) {
            Check.noArgument("keeper(" + it[0] + ", " + it[1] + ", " + it[2] + ")", bank,
                () -> bank.keeper(it[0], it[1], it[2]));
        }
    }

    private static void noNinthKeeper() {
        Threeboxes bank = new Threeboxes();
        for (int k = 0; k < 8; k++) {
            Check.same("keeper " + k, bank.keeper(k % 4, 1 + k, k), k);
        }
        Check.noState("the ninth keeper", bank, () -> bank.keeper(0, 1, 0));
        Check.noArgument("a wrong ninth keeper", bank, () -> bank.keeper(4, 1, 0));
    }

    private static void liesAreTold() {
        Threeboxes bank = new Threeboxes();
        bank.keeper(0, 1, 0);
        bank.keeper(0, 1, 0);
        Check.same("lie(1, 96)", bank.lie(1, 96), 0);
        Check.same("lie(1, 5)", bank.lie(1, 5), 96);
        Check.same("LIE of 1", bank.ofKeeper(1, 3), 5);
        Check.same("LIE of 0", bank.ofKeeper(0, 3), 0);
        Check.same("lie(1, 0)", bank.lie(1, 0), 5);
        Check.same("LIE of 1", bank.ofKeeper(1, 3), 0);
        Check.same("ENTRIES: a LIE is none", bank.bank(4), 0);
    }

    private static void wrongLiesAreRefused() {
        Threeboxes bank = new Threeboxes();
        Check.noIndex("lie(0, 0) without keepers", bank, () -> bank.lie(0, 0));
        bank.keeper(0, 1, 0);
        bank.lie(0, 3);
        Check.noIndex("lie(1, 0)", bank, () -> bank.lie(1, 0));
        Check.noIndex("lie(-1, 0)", bank, () -> bank.lie(-1, 0));
        Check.noIndex("lie(1, 97)", bank, () -> bank.lie(1, 97));
        Check.noArgument("lie(0, 97)", bank, () -> bank.lie(0, 97));
        Check.noArgument("lie(0, -1)", bank, () -> bank.lie(0, -1));
    }
}

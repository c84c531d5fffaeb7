/** The boundaries of "The register", and of the promises 16, 17 and 23. */
public final class RegisterBoundsTest {
    public static void main(String[] args) {
        anEmptyRegister();
        entriesAreNumberedFromZero();
        whatIsRefusedWritesNone();
        whatIsNoSuchCallWritesNone();
        the64thIsWritten();
        no65thIsWritten();
        aLeafIsModulo9973();
        eachPartOfALeaf();
        theTreeOfAnyNumberOfEntries();
        aProofHasTheRowsZeroTo5();
        justTheLeafProves();
        leavesOfZeroAnd9972Prove();
        Check.end();
    }

    /** A bank of which each kind of entry can be written, with so many entries; two of them are of that. */
    private static Threeboxes withEntries(int entries) {
        Threeboxes bank = Banks.ofZones(0, 1, 2, 3, 3);
        bank.deal(42, 2, 2, 0, 15);
        bank.deal(7, 1, 1, 0, 31);
        for (int n = 2; n < entries; n++) {
            bank.open(1, 31);
        }
        Check.same("ENTRIES", bank.bank(4), entries);
        return bank;
    }

    private static void anEmptyRegister() {
        Threeboxes bank = new Threeboxes();
        Check.same("ENTRIES", bank.bank(4), 0);
        int number = 0;
        for (int row = 1; row <= 6; row++) {
            number = (31 * number + 17 * number + 5) % 9973;
        }
        Check.same("ROOT", bank.bank(5), number);
        Check.noIndex("ofEntry(0, 0)", bank, () -> bank.ofEntry(0, 0));
        Check.noIndex("proof(0, 0)", bank, () -> bank.proof(0, 0));
        Check.noIndex("proves(0, 0)", bank, () -> bank.proves(0, 0));
        Check.same("isSound()", bank.isSound(), true);
    }

    private static void entriesAreNumberedFromZero() {
        Threeboxes bank = new Threeboxes();
        bank.flood(0);
        Check.same("ENTRIES", bank.bank(4), 1);
        Check.same("KIND of 0", bank.ofEntry(0, 0), 2);
        Check.same("LEAF of 0", bank.ofEntry(0, 3), 2018);
        Check.noIndex("ofEntry(1, 0)", bank, () -> bank.ofEntry(1, 0));
        Check.noIndex("proof(1, 0)", bank, () -> bank.proof(1, 0));
        Check.noIndex("proves(1, 0)", bank, () -> bank.proves(1, 0));
        bank.flood(1);
        Check.same("LEAF of 1", bank.ofEntry(1, 3), 2018 + 31 + 1);
    }

    private static void whatIsRefusedWritesNone() {
        Threeboxes bank = withEntries(2);
        Check.noArgument("deal", bank, () -> bank.deal(97, 1, 1, 0, 1));
        Check.noState("fresh", bank, () -> bank.fresh(0, 1));
        Check.noIndex("flood", bank, () -> bank.flood(4));
        Check.noState("rebuild", bank, () -> bank.rebuild(0, 4, 1));
        Check.noIndex("open", bank, () -> bank.open(2, 1));
        Check.noArgument("open", bank, () -> bank.open(1, 32));
        Check.same("ENTRIES", bank.bank(4), 2);
    }

    private static void whatIsNoSuchCallWritesNone() {
        Threeboxes bank = withEntries(2);
        int root = bank.bank(5);
        bank.keeper(0, 1, 0);
        bank.lie(0, 1);
        bank.freeze(0, 0, true);
        bank.pass(10);
        bank.knock();
        bank.would(0, 15, 3);
        bank.may(0, 15, 3);
        bank.digest();
        Check.same("ENTRIES", bank.bank(4), 2);
        Check.same("ROOT", bank.bank(5), root);
    }

    private static int writeKind(Threeboxes bank, int kind) {
        switch (kind) {
            case 0: return bank.deal(1, 1, 1, 0, 1);
            case 1: return bank.fresh(0, 15);
            case 2: return bank.flood(3);
            case 3: return bank.rebuild(0, 4, 15);
            case 4: return bank.open(0, 15);
            case 5: return bank.open(0, 1);
            default:
                bank.lie(0, 1);
                return bank.open(0, 7);
        }
    }

    private static final int[] ANSWERS = {2, 0, 3, 16, 42, -1, -2};
    private static final int[] SUBJECTS = {2, 0, 3, 0, 0, 0, 0};

    private static void the64thIsWritten() {
        for (int kind = 0; kind <= 6; kind++) {
            for (int number : new int[] {2, 62, 63}) {
                Threeboxes bank = withEntries(number);
                bank.pass(3);
                Check.same("the KIND " + kind, writeKind(bank, kind), ANSWERS[kind]);
                Check.same("ENTRIES", bank.bank(4), number + 1);
                Check.same("KIND of " + number, bank.ofEntry(number, 0), kind);
                Check.same("SECRET or ZONE of " + number, bank.ofEntry(number, 1), SUBJECTS[kind]);
                Check.same("DAY of " + number, bank.ofEntry(number, 2), 3);
                int leaf = kind * 1009 + 31 * SUBJECTS[kind] + 7 * 3 + number;
                Check.same("LEAF of " + number, bank.ofEntry(number, 3), leaf);
                Check.same("it is proved", bank.proves(number, leaf), true);
                Check.same("isSound()", bank.isSound(), true);
            }
        }
    }

    /** Once there are 64, all goes on, but nothing more is written. */
    private static void no65thIsWritten() {
        for (int kind = 0; kind <= 6; kind++) {
            Threeboxes bank = withEntries(64);
            bank.pass(3);
            int root = bank.bank(5);
            Check.same("the KIND " + kind, writeKind(bank, kind), ANSWERS[kind]);
            Check.same("ENTRIES", bank.bank(4), 64);
            Check.same("ROOT", bank.bank(5), root);
            Check.same("KIND of the last", bank.ofEntry(63, 0), 4);
            Check.same("DAY of the last", bank.ofEntry(63, 2), 0);
            Check.same("SECRETS", bank.bank(1), kind == 0 ? 3 : 2);
            Check.same("EPOCH", bank.ofSecret(0, 3), kind == 1 ? 1 : 0);
            Check.same("SHARES", bank.bank(10), 9 + new int[] {1, 0, -3, 1, 0, 0, 0}[kind]);
            Check.same("MESSAGES", bank.bank(8), kind == 3 ? 16 : 0);
            Check.same("REFUSED", bank.bank(6), kind == 5 ? 1 : 0);
            Check.same("FAILED", bank.bank(7), kind == 6 ? 1 : 0);
            Check.same("isSound()", bank.isSound(), true);
            Check.noIndex("ofEntry(64, 0)", bank, () -> bank.ofEntry(64, 0));
            Check.noIndex("proof(64, 0)", bank, () -> bank.proof(64, 0));
            Check.noIndex("proves(64, 0)", bank, () -> bank.proves(64, 0));
        }
        Threeboxes bank = withEntries(64);
        bank.lie(4, 3);
        bank.open(1, 31);
        Check.same("a liar is NOTED by an opening that is not written", bank.ofKeeper(4, 4), 1);
    }

    /** Refused openings of the secret 0 on the day 703: 5045 + 4921 + their number. */
    private static Threeboxes onDay703() {
        Threeboxes bank = Banks.ofZones(0);
        bank.deal(1, 1, 2, 0, 1);
        Banks.goTo(bank, 703);
        for (int n = 1; n <= 9; n++) {
            bank.open(0, 1);
        }
        return bank;
    }

    private static void aLeafIsModulo9973() {
        Threeboxes bank = onDay703();
        Check.same("LEAF of 5045 + 4921 + 5", bank.ofEntry(5, 3), 9971);
        Check.same("LEAF of 5045 + 4921 + 6", bank.ofEntry(6, 3), 9972);
        Check.same("LEAF of 5045 + 4921 + 7", bank.ofEntry(7, 3), 0);
        Check.same("LEAF of 5045 + 4921 + 8", bank.ofEntry(8, 3), 1);
        Threeboxes last = Banks.ofZones(0, 1);
        for (int s = 0; s < 6; s++) {
            last.deal(1, 1, 1, 0, 3);
        }
        last.lie(1, 1);
        for (int n = 6; n < 63; n++) {
            last.open(0, 1);
        }
        Banks.goTo(last, 999);
        last.open(5, 3);
        Check.same("the greatest LEAF: 6054 + 155 + 6993 + 63", last.ofEntry(63, 3), 13265 - 9973);
        Check.same("it is proved", last.proves(63, 13265 - 9973), true);
    }

    private static void eachPartOfALeaf() {
        Threeboxes bank = Banks.ofZones(0, 1, 2, 3);
        for (int s = 0; s < 6; s++) {
            bank.deal(1, 1, 1, 0, 3);
            Check.same("SECRET of a DEAL", bank.ofEntry(s, 1), s);
            Check.same("LEAF of a DEAL", bank.ofEntry(s, 3), 31 * s + s);
        }
        for (int day : new int[] {0, 1, 999}) {
            Banks.goTo(bank, day);
            for (int zone = 0; zone <= 3; zone++) {
                int number = bank.bank(4);
                bank.flood(zone);
                Check.same("ZONE of a FLOOD", bank.ofEntry(number, 1), zone);
                Check.same("DAY of a FLOOD", bank.ofEntry(number, 2), day);
                Check.same("LEAF of a FLOOD", bank.ofEntry(number, 3), 2018 + 31 * zone + 7 * day + number);
            }
        }
        Check.same("the DAY of an ENTRY stays", bank.ofEntry(6, 2), 0);
    }

    /** The rows of the tree, put together as the document says: 64 leaves, or 0 for an entry that is not there. */
    private static int[][] treeOf(Threeboxes bank) {
        int[][] rows = new int[7][];
        rows[0] = new int[64];
        for (int e = 0; e < bank.bank(4); e++) {
            rows[0][e] = bank.ofEntry(e, 3);
        }
        for (int row = 1; row <= 6; row++) {
            rows[row] = new int[rows[row - 1].length / 2];
            for (int k = 0; k < rows[row].length; k++) {
                rows[row][k] = (31 * rows[row - 1][2 * k] + 17 * rows[row - 1][2 * k + 1] + 5) % 9973;
            }
        }
        return rows;
    }

    private static void theTreeOfAnyNumberOfEntries() {
        Threeboxes bank = new Threeboxes();
        for (int entries = 0; entries <= 64; entries++) {
            int[][] rows = treeOf(bank);
            Check.same("ENTRIES", bank.bank(4), entries);
            Check.same("how many ROOTS", rows[6].length, 1);
            Check.same("ROOT of " + entries, bank.bank(5), rows[6][0]);
            for (int e = 0; e < entries; e++) {
                int place = e;
                for (int row = 0; row <= 5; row++) {
                    int beside = place % 2 == 0 ? place + 1 : place - 1;
                    Check.same("proof(" + e + ", " + row + ")", bank.proof(e, row), rows[row][beside]);
                    place /= 2;
                }
            }
            bank.flood(entries % 3);
        }
        int root = bank.bank(5);
        bank.flood(3);
        Check.same("ROOT after a 65th", bank.bank(5), root);
    }

    private static void aProofHasTheRowsZeroTo5() {
        Threeboxes bank = withEntries(3);
        Check.same("beside the last one nothing is", bank.proof(2, 0), 0);
        Check.same("beside these two one is", bank.proof(2, 1), treeOf(bank)[1][0]);
        Check.same("the row 5", bank.proof(0, 5), treeOf(bank)[5][1]);
        for (int row : new int[] {-1, 6, 7, Integer.MIN_VALUE, Integer.MAX_VALUE}) {
            Check.noIndex("proof(0, " + row + ")", bank, () -> bank.proof(0, row));
            Check.noIndex("proof(3, " + row + ")", bank, () -> bank.proof(3, row));
        }
        Check.noIndex("proof(3, 0)", bank, () -> bank.proof(3, 0));
        Check.noIndex("proof(-1, 0)", bank, () -> bank.proof(-1, 0));
    }

    private static void justTheLeafProves() {
        for (int entries : new int[] {2, 63, 64}) {
            Threeboxes bank = withEntries(entries);
            for (int e : new int[] {0, 1, entries / 2, entries - 1}) {
                int proved = 0;
                for (int leaf = 0; leaf <= 9972; leaf++) {
                    proved += bank.proves(e, leaf) ? 1 : 0;
                }
                Check.same("how many LEAVES of " + e + " are proved", proved, 1);
                Check.same("its LEAF is", bank.proves(e, bank.ofEntry(e, 3)), true);
            }
        }
    }

    private static void leavesOfZeroAnd9972Prove() {
        Threeboxes bank = onDay703();
        Check.same("9972 of the entry 6", bank.proves(6, 9972), true);
        Check.same("0 of the entry 6", bank.proves(6, 0), false);
        Check.same("0 of the entry 7", bank.proves(7, 0), true);
        Check.same("9972 of the entry 7", bank.proves(7, 9972), false);
        for (int leaf : new int[] {-1, 9973, 9980, Integer.MIN_VALUE, Integer.MAX_VALUE}) {
            Check.noArgument("proves(7, " + leaf + ")", bank, () -> bank.proves(7, leaf));
            Check.noIndex("proves(10, " + leaf + ")", bank, () -> bank.proves(10, leaf));
            Check.noIndex("proves(-1, " + leaf + ")", bank, () -> bank.proves(-1, leaf));
        }
    }
}

/** The boundaries of "Groups": what is given, how many may not agree, who helps to rebuild. */
public final class GroupBoundsTest {
    private static final int VALUE = 42;

    public static void main(String[] args) {
        whatIsGivenIsModulo97();
        anEmptyGroup();
        onlySharesThatAreNotStaleAreOfAGroup();
        fewerThanThresholdAreNotGood();
        justThresholdAreGoodWhateverTheyGive();
        halfOfTheRestMayLie();
        oneMoreMayNot();
        liarsWhoAgreeWin();
        justThresholdRebuild();
        halfOfTheHelpersRestMayLie();
        theKeeperItselfIsNotOfTheGroup();
        messagesAreNTimesN();
        rebuildsThatAreRefused();
        Check.end();
    }

    private static Threeboxes eight(int t, int set) {
        Threeboxes bank = Banks.ofZones(0, 1, 2, 3, 0, 1, 2, 3);
        bank.deal(VALUE, t, 1, 0, set);
        return bank;
    }

    /** Eight of whom those of the set lie, each by another number. */
    private static Threeboxes lying(int t, int liars) {
        Threeboxes bank = eight(t, 255);
        lie(bank, liars);
        return bank;
    }

    private static void lie(Threeboxes bank, int liars) {
        int[] lies = {1, 96, 50, 7, 33, 71, 20, 12};
        for (int k = 0; k < 8; k++) {
            if ((liars >> k & 1) == 1) {
                bank.lie(k, lies[k]);
            }
        }
    }

    private static void checkWould(String when, Threeboxes bank, int set, int... due) {
        for (int what = 0; what <= 5; what++) {
            Check.same(when + ": would(0, " + set + ", " + what + ")", bank.would(0, set, what), due[what]);
        }
    }

    private static void whatIsGivenIsModulo97() {
        for (int value : new int[] {0, 1, 48, 49, 95, 96}) {
            Threeboxes bank = Banks.ofZones(0);
            bank.deal(value, 1, 1, 0, 1);
            for (int lie = 0; lie <= 96; lie++) {
                bank.lie(0, lie);
                int given = value + lie < 97 ? value + lie : value + lie - 97;
                Check.same(value + " and a LIE of " + lie, bank.share(0, 0, 2), given);
                Check.same("the SHARE stays", bank.share(0, 0, 0), value);
                Check.same("FOUND", bank.would(0, 1, 3), given);
            }
        }
    }

    private static void anEmptyGroup() {
        for (int t = 1; t <= 4; t++) {
            Threeboxes bank = eight(t, 15);
            checkWould("the empty set, of the order " + t, bank, 0, 0, 0, 0, -1, 0, 0);
            checkWould("keepers without shares", bank, 0b11110000, 0, 0, 0, -1, 0, 0);
            bank.fresh(0, 15);
            for (int zone = 0; zone <= 3; zone++) {
                bank.flood(zone);
            }
            checkWould("all, when all shares are lost", bank, 255, 0, 0, 0, -1, 0, 0);
        }
    }

    private static void onlySharesThatAreNotStaleAreOfAGroup() {
        Threeboxes bank = eight(2, 0b01111111);
        bank.fresh(0, 0b00111111);
        bank.flood(3);
        checkWould("one without, one stale, one lost", bank, 255, 5, 1, 1, VALUE, 0, 5);
        checkWould("of these one alone", bank, 0b11001001, 1, 1, 0, -1, 0, 0);
        checkWould("of these none", bank, 0b11001000, 0, 0, 0, -1, 0, 0);
        bank.lie(6, 5);
        bank.lie(7, 5);
        checkWould("nobody of these lies", bank, 255, 5, 1, 1, VALUE, 0, 5);
    }

    private static void fewerThanThresholdAreNotGood() {
        for (int t = 1; t <= 4; t++) {
            Threeboxes bank = eight(t, 255);
            for (int n = 1; n < t; n++) {
                checkWould(n + " of the order " + t, bank, (1 << n) - 1, n, 1, 0, -1, 0, 0);
                Check.same("open", bank.open(0, (1 << n) - 1), -2);
            }
            Check.same("FAILED", bank.bank(7), t - 1);
        }
    }

    private static void justThresholdAreGoodWhateverTheyGive() {
        for (int t = 1; t <= 4; t++) {
            int set = (1 << t) - 1;
            checkWould("t of the order " + t, eight(t, 255), set, t, 1, 1, VALUE, 0, t);
            for (int k = 0; k < t; k++) {
                Threeboxes bank = lying(t, 1 << k);
                Check.same("a liar: GOOD", bank.would(0, set, 2), 1);
                Check.same("a liar: another number", bank.would(0, set, 3) != VALUE, true);
                Check.same("a liar: LIARS", bank.would(0, set, 4), 0);
                Check.same("a liar: who agrees", bank.would(0, set, 5), t);
                Check.same("open", bank.open(0, set), bank.would(0, set, 3));
                Check.same("NOTED", bank.bank(9), 0);
            }
        }
    }

    /** (n - t) / 2, rounded down, need not agree. */
    private static void halfOfTheRestMayLie() {
        for (int t = 1; t <= 4; t++) {
            for (int n = t; n <= 8; n++) {
                int most = (n - t) / 2;
                int set = (1 << n) - 1;
                for (int liars = 0; liars <= set; liars++) {
                    if (Integer.bitCount(liars) > most) {
                        continue;
                    }
                    int agree = n - Integer.bitCount(liars);
                    Threeboxes bank = lying(t, liars);
                    checkWould(n + " of the order " + t, bank, set, n, 1, 1, VALUE, liars, agree);
                    Check.same("open", bank.open(0, set), VALUE);
                    Check.same("NOTED", bank.bank(9), Integer.bitCount(liars));
                }
            }
        }
    }

    private static void oneMoreMayNot() {
        for (int t = 1; t <= 4; t++) {
            for (int n = t + 1; n <= 8; n++) {
                int most = (n - t) / 2;
                int set = (1 << n) - 1;
                int agree = Math.max(t, n - most - 1);
                int first = (1 << most + 1) - 1;
                int last = first << n - most - 1;
                checkWould("the first of " + n, lying(t, first), set, n, 1, 0, -1, 0, agree);
                Threeboxes bank = lying(t, last);
                checkWould("the last of " + n, bank, set, n, 1, 0, -1, 0, agree);
                Check.same("open", bank.open(0, set), -2);
                Check.same("NOTED", bank.bank(9), 0);
                Check.same("FAILED", bank.bank(7), 1);
            }
        }
    }

    private static void liarsWhoAgreeWin() {
        Threeboxes bank = eight(1, 255);
        for (int k = 0; k < 3; k++) {
            bank.lie(k, 5);
        }
        checkWould("two who do not lie", bank, 0b00011000, 2, 1, 1, VALUE, 0, 2);
        checkWould("one liar against one", bank, 0b00001001, 2, 1, 0, -1, 0, 1);
        checkWould("two liars against one", bank, 0b00001011, 3, 1, 1, VALUE + 5, 0b00001000, 2);
        checkWould("two liars against two", bank, 0b00011011, 4, 1, 0, -1, 0, 2);
        checkWould("three liars against two", bank, 0b00011111, 5, 1, 1, VALUE + 5, 0b00011000, 3);
        checkWould("three liars against five", bank, 255, 8, 1, 1, VALUE, 7, 5);
        bank.lie(3, 5);
        checkWould("four liars against four", bank, 255, 8, 1, 0, -1, 0, 4);
        bank.lie(4, 5);
        checkWould("five liars against three", bank, 255, 8, 1, 1, VALUE + 5, 0b11100000, 5);
        Check.same("open", bank.open(0, 255), VALUE + 5);
        Check.same("who lies with most is not NOTED", bank.ofKeeper(0, 4), 0);
        Check.same("who does not lie is", bank.ofKeeper(7, 4), 1);
        Check.same("NOTED", bank.bank(9), 3);
    }

    /** What the curve of the order t has at the keeper's point; 3, 12 and 4 are drawn. */
    private static int dealt(int t, int keeper) {
        int x = keeper + 1;
        int sum = VALUE + (t > 1 ? 3 * x : 0) + (t > 2 ? 12 * x * x : 0) + (t > 3 ? 4 * x * x * x : 0);
        return sum % 97;
    }

    private static void justThresholdRebuild() {
        for (int t = 1; t <= 4; t++) {
            for (int n = 0; n <= 7; n++) {
                int helpers = (1 << n) - 1;
                Threeboxes bank = eight(t, 127);
                if (n < t) {
                    Check.noState(n + " of the order " + t, bank, () -> bank.rebuild(0, 7, helpers));
                } else {
                    Check.same(n + " of the order " + t, bank.rebuild(0, 7, helpers), n * n);
                    Check.same("SHARE", bank.share(0, 7, 0), dealt(t, 7));
                    Check.same("its EPOCH", bank.share(0, 7, 1), 0);
                }
            }
        }
    }

    private static void halfOfTheHelpersRestMayLie() {
        for (int t = 1; t <= 4; t++) {
            for (int n = t + 1; n <= 7; n++) {
                int most = (n - t) / 2;
                int helpers = (1 << n) - 1;
                Threeboxes bank = eight(t, 127);
                lie(bank, (1 << most) - 1);
                Check.same(most + " liars of " + n, bank.rebuild(0, 7, helpers), n * n);
                Check.same("SHARE", bank.share(0, 7, 0), dealt(t, 7));
                Check.same("NOTED", bank.bank(9), 0);
                Threeboxes other = eight(t, 127);
                lie(other, (1 << most + 1) - 1);
                Check.noState("one more of " + n, other, () -> other.rebuild(0, 7, helpers));
            }
        }
    }

    private static void theKeeperItselfIsNotOfTheGroup() {
        Threeboxes bank = eight(3, 0b00001111);
        bank.lie(3, 9);
        bank.lie(4, 9);
        bank.fresh(0, 7);
        Check.noState("two and its own stale one", bank, () -> bank.rebuild(0, 3, 0b00001011));
        Check.noState("two and itself, without one", bank, () -> bank.rebuild(0, 4, 0b00010011));
        Check.same("three and its own stale one", bank.rebuild(0, 3, 0b00001111), 9);
        Check.same("its SHARE", bank.share(0, 3, 0), at(4));
        Check.same("its EPOCH", bank.share(0, 3, 1), 1);
        bank.lie(3, 0);
        Check.same("four and itself, without one", bank.rebuild(0, 4, 255), 16);
        Check.same("its SHARE: its own LIE is no part of it", bank.share(0, 4, 0), at(5));
        Check.same("what it GIVES", bank.share(0, 4, 2), (at(5) + 9) % 97);
    }

    /** The secret of the order 3, once fresh by 4 and 70, at x. */
    private static int at(int x) {
        return (VALUE + 7 * x + 82 * x * x) % 97;
    }

    private static void messagesAreNTimesN() {
        Threeboxes bank = eight(1, 1);
        int all = 0;
        for (int n = 1; n <= 7; n++) {
            Check.same("MESSAGES ahead of that", bank.bank(8), all);
            Check.same(n + " help", bank.rebuild(0, n, 255), n * n);
            all += n * n;
        }
        Check.same("MESSAGES", bank.bank(8), 140);
        Check.same("all have a share", bank.ofSecret(0, 4), 255);
        Check.noState("nobody is left without one", bank, () -> bank.rebuild(0, 7, 127));
        Check.same("MESSAGES after one that was refused", bank.bank(8), 140);
    }

    private static void rebuildsThatAreRefused() {
        Threeboxes bank = eight(2, 127);
        Check.noState("it has one", bank, () -> bank.rebuild(0, 0, 126));
        Check.noState("it has one, and nobody helps", bank, () -> bank.rebuild(0, 0, 0));
        Check.noState("it has none, and nobody helps", bank, () -> bank.rebuild(0, 7, 0));
        Check.noState("it has none, and itself helps alone", bank, () -> bank.rebuild(0, 7, 128));
        Check.noState("it has none, and one helps", bank, () -> bank.rebuild(0, 7, 64));
        Check.noArgument("it has one, and no set", bank, () -> bank.rebuild(0, 0, 256));
        Check.noArgument("it has none, and no set", bank, () -> bank.rebuild(0, 7, -1));
        Check.noIndex("no keeper, and nobody helps", bank, () -> bank.rebuild(0, 8, 0));
        Check.noIndex("no keeper, and no set", bank, () -> bank.rebuild(0, -1, 256));
        Check.noIndex("no secret, and it would have one", bank, () -> bank.rebuild(1, 0, 126));
        Check.noIndex("no secret, and no set", bank, () -> bank.rebuild(-1, 0, -1));
    }
}

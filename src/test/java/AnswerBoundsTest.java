import java.math.BigInteger;

/** The boundaries of what is told: nothing, the least and the most of each, runs of 512 calls, the checksum. */
public final class AnswerBoundsTest {
    public static void main(String[] args) {
        aNewBankHasNothing();
        banksShareNothing();
        sharesOfAKeeperAreZeroTo6();
        setsOfASecretAreEmptyToAll();
        countsOfABank();
        refusedCallsLeaveNoTrace();
        rowsOfOneToEightKeepers();
        groupsOfZeroToEight();
        fewerThanThresholdMayBeAnyValue();
        thresholdMayBeOneValue();
        moreMayBeOneValueOrNone();
        asksChangeNothing();
        fivehundredFreshenings();
        fivehundredRebuildings();
        fivehundredOpenings();
        fivehundredDigests();
        digestOfEachBank();
        Check.end();
    }

    private static Threeboxes ofEight() {
        return Banks.ofZones(0, 1, 2, 3, 0, 1, 2, 3);
    }

    private static Threeboxes ofOneZone() {
        return Banks.ofZones(0, 0, 0, 0, 0, 0, 0, 0);
    }

    private static void aNewBankHasNothing() {
        Threeboxes bank = new Threeboxes();
        for (int what : new int[] {0, 1, 2, 4, 6, 7, 8, 9, 10, 11}) {
            Check.same("bank(" + what + ")", bank.bank(what), 0);
        }
        Check.same("LUCK", bank.bank(3), 23);
        Check.same("isSound()", bank.isSound(), true);
        Check.noArgument("bank(-1)", bank, () -> bank.bank(-1));
        Check.noArgument("bank(12)", bank, () -> bank.bank(12));
        Check.noArgument("deal to nobody", bank, () -> bank.deal(0, 1, 1, 0, 0));
    }

    private static void banksShareNothing() {
        Threeboxes bank = new Threeboxes();
        String before = State.of(bank);
        Threeboxes other = ofEight();
        other.deal(96, 4, 4, 0, 255);
        other.lie(0, 1);
        other.open(0, 255);
        other.would(0, 255, 3);
        other.freeze(0, 0, true);
        other.pass(365);
        other.knock();
        Check.same("a bank after calls of another", State.of(bank), before);
        Check.same("a bank made after these", State.of(new Threeboxes()), before);
    }

    private static void sharesOfAKeeperAreZeroTo6() {
        Threeboxes bank = Banks.ofZones(0, 1, 2);
        for (int s = 0; s < 6; s++) {
            checkShares("of " + s, bank, s, 0);
            bank.deal(s, 1, 1, 0, 3);
        }
        checkShares("of six", bank, 6, 0);
        for (int s = 0; s < 6; s++) {
            bank.fresh(s, 1);
            checkShares("STALE of " + s, bank, 6, s + 1);
        }
        bank.flood(1);
        checkShares("after a flood", bank, 0, 0);
        bank.rebuild(5, 1, 1);
        checkShares("after a rebuilding", bank, 1, 0);
        Check.same("a keeper who never had one", bank.ofKeeper(2, 5) + bank.ofKeeper(2, 6), 0);
    }

    private static void checkShares(String when, Threeboxes bank, int shares, int stale) {
        Check.same(when + ": SHARES", bank.ofKeeper(1, 5), shares);
        Check.same(when + ": STALE ones", bank.ofKeeper(1, 6), stale);
    }

    private static void setsOfASecretAreEmptyToAll() {
        Threeboxes bank = ofEight();
        bank.deal(5, 1, 1, 0, 255);
        Check.same("all", bank.ofSecret(0, 4), 255);
        Check.same("none is STALE", bank.ofSecret(0, 5), 0);
        bank.fresh(0, 1);
        Check.same("one", bank.ofSecret(0, 4), 1);
        Check.same("all others are STALE", bank.ofSecret(0, 5), 254);
        bank.flood(0);
        Check.same("none", bank.ofSecret(0, 4), 0);
        Check.same("the STALE ones", bank.ofSecret(0, 5), 0b11101110);
        Check.same("row", bank.row(0), ".sss.sss");
        Check.same("for how much", bank.ofSecret(0, 7), -1);
        Check.same("who", bank.ofSecret(0, 8), 0);
        Check.noState("nobody counts", bank, () -> bank.fresh(0, 255));
        Check.noState("nobody helps", bank, () -> bank.rebuild(0, 0, 255));
        Check.same("lost", bank.lost(0), 1.0);
        Check.same("fewest", bank.fewest(0), 0);
        Check.same("open", bank.open(0, 255), -1);
        Check.same("isSound()", bank.isSound(), true);
    }

    private static void countsOfABank() {
        Threeboxes bank = ofOneZone();
        for (int s = 0; s < 6; s++) {
            Check.same("SHARES", bank.bank(10), 8 * s);
            bank.deal(s, 1, 1, 0, 255);
        }
        for (int s = 0; s < 6; s++) {
            Check.same("SHARES that are not STALE", bank.bank(10), 48 - 7 * s);
            Check.same("STALE ones", bank.bank(11), 7 * s);
            Check.same("fresh", bank.fresh(s, 128), 7);
        }
        Check.same("SHARES that are not STALE", bank.bank(10), 6);
        Check.same("STALE ones", bank.bank(11), 42);
        Check.same("a flood of all", bank.flood(0), 48);
        Check.same("SHARES", bank.bank(10) + bank.bank(11), 0);
    }

    private static void refuse(Threeboxes bank) {
        Check.noArgument("keeper", bank, () -> bank.keeper(4, 0, 101));
        Check.noArgument("lie", bank, () -> bank.lie(0, 97));
        Check.noArgument("deal", bank, () -> bank.deal(42, 4, 1, 0, 7));
        Check.noState("fresh", bank, () -> bank.fresh(0, 1));
        Check.noIndex("flood", bank, () -> bank.flood(4));
        Check.noState("rebuild", bank, () -> bank.rebuild(0, 7, 1));
        Check.noIndex("freeze", bank, () -> bank.freeze(2, 0, true));
        Check.noArgument("pass", bank, () -> bank.pass(366));
        Check.noArgument("open", bank, () -> bank.open(0, 256));
        Check.noArgument("would", bank, () -> bank.would(0, 255, 6));
        Check.noArgument("may", bank, () -> bank.may(0, 255, 97));
    }

    /** One bank gets refused calls between the others, one does not: in the end they answer alike. */
    private static void refusedCallsLeaveNoTrace() {
        Threeboxes one = ofEight();
        Threeboxes other = ofEight();
        for (int step = 0; step < 8; step++) {
            go(one, step);
            go(other, step);
            refuse(one);
            Check.same("after the step " + step, one.digest(), other.digest());
        }
        Check.same("all", State.of(one), State.of(other));
    }

    private static void go(Threeboxes bank, int step) {
        switch (step) {
            case 0 -> bank.deal(42, 4, 2, 0, 127);
            case 1 -> bank.lie(0, 96);
            case 2 -> bank.open(0, 127);
            case 3 -> bank.fresh(0, 0b01011111);
            case 4 -> bank.flood(1);
            case 5 -> bank.rebuild(0, 1, 0b01011100);
            case 6 -> bank.freeze(1, 0, true);
            default -> bank.pass(365);
        }
    }

    private static void rowsOfOneToEightKeepers() {
        Threeboxes bank = Banks.ofZones(0);
        bank.deal(5, 1, 1, 0, 1);
        String due = "o";
        for (int k = 1; k <= 8; k++) {
            Check.same("row", bank.row(0), due);
            bank.freeze(0, 0, true);
            Check.same("row", bank.row(0), due + "!");
            bank.freeze(1, 0, true);
            Check.same("row of one that both have FROZEN", bank.row(0), due + "!");
            bank.freeze(0, 0, false);
            Check.same("row", bank.row(0), due + "!");
            bank.freeze(1, 0, false);
            if (k < 8) {
                bank.keeper(3, 1, 1);
                due += ".";
            }
        }
        Check.same("how long a row is", bank.row(0).length(), 8);
    }

    private static void groupsOfZeroToEight() {
        Threeboxes bank = ofEight();
        bank.deal(5, 1, 4, 0, 255);
        for (int n = 0; n <= 8; n++) {
            int set = (1 << n) - 1;
            Check.same("how many " + n, bank.would(0, set, 0), n);
            Check.same("LAWFUL " + n, bank.would(0, set, 1), n >= 4 ? 1 : 0);
            Check.same("GOOD " + n, bank.would(0, set, 2), n >= 1 ? 1 : 0);
            Check.same("FOUND " + n, bank.would(0, set, 3), n >= 1 ? 5 : -1);
            Check.same("LIARS " + n, bank.would(0, set, 4), 0);
            Check.same("agree " + n, bank.would(0, set, 5), n);
        }
    }

    private static int valuesThatMay(Threeboxes bank, int set) {
        int count = 0;
        for (int value = 0; value <= 96; value++) {
            count += bank.may(0, set, value) ? 1 : 0;
        }
        return count;
    }

    private static void fewerThanThresholdMayBeAnyValue() {
        for (int t = 1; t <= 4; t++) {
            Threeboxes bank = ofEight();
            bank.deal(5, t, 1, 0, 127);
            bank.lie(0, 50);
            for (int set = 0; set < 256; set++) {
                if (Integer.bitCount(set & 127) < t) {
                    Check.same("fewer than " + t + ", the set " + set, valuesThatMay(bank, set), 97);
                }
            }
        }
    }

    private static void thresholdMayBeOneValue() {
        for (int t = 1; t <= 4; t++) {
            for (int value : new int[] {0, 5, 96}) {
                Threeboxes bank = ofEight();
                bank.deal(value, t, 4, 999, 255);
                for (int set = 0; set < 256; set++) {
                    if (Integer.bitCount(set) == t) {
                        Check.same("just " + t, valuesThatMay(bank, set), 1);
                        Check.same("just the VALUE", bank.may(0, set, value), true);
                    }
                }
                bank.lie(0, 96);
                int first = (1 << t) - 1;
                Check.same("with a liar", valuesThatMay(bank, first), 1);
                Check.same("another one", bank.may(0, first, value), false);
                Check.same("which would be FOUND", bank.may(0, first, bank.would(0, first, 3)), true);
            }
        }
    }

    private static void moreMayBeOneValueOrNone() {
        for (int t = 1; t <= 4; t++) {
            for (int n = t + 1; n <= 8; n++) {
                int set = 256 - (1 << 8 - n);
                Threeboxes bank = ofEight();
                bank.deal(96, t, 1, 0, 255);
                Check.same("more than " + t, valuesThatMay(bank, set), 1);
                Check.same("the VALUE", bank.may(0, set, 96), true);
                bank.lie(7, 1);
                Check.same("the last one lies", valuesThatMay(bank, set), 0);
                bank.lie(7, 0);
                bank.lie(8 - n, 96);
                Check.same("the first one lies", valuesThatMay(bank, set), 0);
            }
        }
    }

    private static void asksChangeNothing() {
        Threeboxes bank = ofEight();
        bank.deal(42, 3, 2, 0, 127);
        bank.lie(0, 9);
        bank.fresh(0, 63);
        String before = State.of(bank);
        for (int set = 0; set < 256; set++) {
            for (int what = 0; what <= 5; what++) {
                bank.would(0, set, what);
            }
            bank.may(0, set, 42);
        }
        bank.lost(0);
        bank.fewest(0);
        bank.proves(0, 0);
        bank.isSound();
        bank.digest();
        bank.row(0);
        Check.same("all", State.of(bank), before);
    }

    private static void fivehundredFreshenings() {
        Threeboxes bank = ofEight();
        bank.deal(42, 4, 1, 0, 255);
        for (int epoch = 1; epoch <= 500; epoch++) {
            Check.same("fresh", bank.fresh(0, 127), 1);
        }
        Check.same("EPOCH", bank.ofSecret(0, 3), 500);
        Check.same("EPOCH of a SHARE", bank.share(0, 6, 1), 500);
        Check.same("EPOCH of the STALE one", bank.share(0, 7, 1), 0);
    }

    private static void fivehundredRebuildings() {
        Threeboxes bank = Banks.ofZones(0, 0, 0, 0, 0, 0, 0, 1);
        bank.deal(42, 4, 1, 0, 127);
        Check.same("SHARES", bank.rebuild(0, 7, 255), 49);
        for (int n = 2; n <= 250; n++) {
            Check.same("flood", bank.flood(1), 1);
            Check.same("rebuild", bank.rebuild(0, 7, 255), 49);
        }
        Check.same("MESSAGES", bank.bank(8), 250 * 49);
    }

    private static void fivehundredOpenings() {
        Threeboxes bank = ofEight();
        bank.deal(42, 4, 1, 0, 255);
        for (int n = 0; n < 499; n++) {
            Check.same("open", bank.open(0, n % 2 == 0 ? 0 : 7), n % 2 == 0 ? -1 : -2);
        }
        Check.same("REFUSED", bank.bank(6), 250);
        Check.same("FAILED", bank.bank(7), 249);
        Check.same("knock", bank.knock(), 251);
    }

    private static void fivehundredDigests() {
        Threeboxes bank = ofEight();
        for (int s = 0; s < 6; s++) {
            bank.deal(16 * s, 1 + s % 4, 2, 0, 255);
        }
        for (int n = 0; n < 248; n++) {
            Check.same("digest", bank.digest(), bank.digest());
        }
        Check.same("digest", bank.digest(), digestOf(bank));
    }

    /** The number without any wrap-around, of which the lowest 64 bits are the checksum. */
    private static BigInteger whole;

    private static void add(long v) {
        whole = whole.multiply(BigInteger.valueOf(31)).add(BigInteger.valueOf(v));
    }

    private static long digestOf(Threeboxes bank) {
        whole = BigInteger.valueOf(7507);
        for (int what = 0; what <= 11; what++) {
            add(bank.bank(what));
        }
        int keepers = bank.bank(0);
        for (int k = 0; k < keepers; k++) {
            for (int what = 0; what <= 6; what++) {
                add(bank.ofKeeper(k, what));
            }
        }
        for (int s = 0; s < bank.bank(1); s++) {
            addSecret(bank, s, keepers);
        }
        for (int e = 0; e < bank.bank(4); e++) {
            add(bank.ofEntry(e, 3));
        }
        add(bank.isSound() ? 1 : 0);
        return whole.longValue();
    }

    private static void addSecret(Threeboxes bank, int s, int keepers) {
        for (int what = 0; what <= 8; what++) {
            add(bank.ofSecret(s, what));
        }
        for (int k = 0; k < keepers; k++) {
            for (int what = 0; what <= 2; what++) {
                add(bank.share(s, k, what));
            }
        }
        for (int what = 0; what <= 5; what++) {
            add(bank.would(s, (1 << keepers) - 1, what));
        }
        add(bank.fewest(s));
        add((long) Math.floor(4096 * bank.lost(s)));
    }

    private static void digestOfEachBank() {
        Threeboxes bank = new Threeboxes();
        Check.same("of a new bank", bank.digest(), digestOf(bank));
        Check.same("which has wrapped around", whole.bitLength() > 64, true);
        for (int k = 0; k < 8; k++) {
            bank.keeper(k % 4, 99 - k, 12 * k + 1);
            Check.same("of the keeper " + k, bank.digest(), digestOf(bank));
        }
        for (int s = 0; s < 6; s++) {
            bank.deal(96 - s, 1 + s % 4, 1 + s % 4, 0, s == 5 ? 3 : 255);
            Check.same("of the secret " + s, bank.digest(), digestOf(bank));
        }
        bank.lie(3, 96);
        bank.fresh(2, 0b01111110);
        bank.freeze(1, 4, true);
        Check.same("of a liar, a freshening and a court", bank.digest(), digestOf(bank));
        for (int n = 7; n < 64; n++) {
            bank.open(n % 6, 255 - n % 9);
            Check.same("of the entry " + n, bank.digest(), digestOf(bank));
        }
        Check.same("ENTRIES", bank.bank(4), 64);
        bank.flood(0);
        bank.flood(1);
        bank.knock();
        bank.pass(1);
        Check.same("of one with a full register", bank.digest(), digestOf(bank));
        Check.same("of one secret nobody has a share", bank.ofSecret(5, 4), 0);
    }
}

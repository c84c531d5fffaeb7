/**
 * Of each argument of each call: the last values that are allowed, and the first that are not, on both sides; and of
 * several exceptions that apply the one that is named first. A call that is refused changes nothing.
 */
public final class ArgumentBoundsTest {
    private static final Class<?> INDEX = IndexOutOfBoundsException.class;
    private static final Class<?> ARGUMENT = IllegalArgumentException.class;

    private interface Maker {
        Threeboxes make();
    }

    private interface Call {
        Object on(Threeboxes bank, int[] with);
    }

    /** What an argument may be: the least and the most that are accepted; what is wrong may begin further below. */
    private record Range(int wrongBelow, int least, int most, Class<?> due) {
        int[] allowed() {
            return new int[] {least, most};
        }

        int[] wrong() {
            return new int[] {wrongBelow, most + 1, Integer.MIN_VALUE, Integer.MAX_VALUE};
        }
    }

    private static Range index(int least, int most) {
        return new Range(least - 1, least, most, INDEX);
    }

    private static Range argument(int least, int most) {
        return new Range(least - 1, least, most, ARGUMENT);
    }

    /** A set whose smaller ones may be too small for the call, but are sets. */
    private static Range set(int least, int keepers) {
        return new Range(-1, least, (1 << keepers) - 1, ARGUMENT);
    }

    public static void main(String[] args) {
        ofASmallBank();
        ofAWideBank();
        ofAnEmptyBank();
        ofAFullBank();
        setsOfEachNumberOfKeepers();
        Check.end();
    }

    /** Three keepers of whom the keeper 1 alone has a share; one secret, one entry; the first day. */
    private static Threeboxes small() {
        Threeboxes bank = Banks.ofZones(0, 1, 2);
        bank.deal(50, 1, 1, 0, 2);
        return bank;
    }

    private static void ofASmallBank() {
        Maker bank = ArgumentBoundsTest::small;
        check(bank, "keeper", (b, a) -> b.keeper(a[0], a[1], a[2]), new int[] {1, 50, 50},
            argument(0, 3), argument(1, 99), argument(0, 100));
        check(bank, "deal", (b, a) -> b.deal(a[0], a[1], a[2], a[3], a[4]), new int[] {50, 1, 2, 500, 1},
            argument(0, 96), argument(1, 1), argument(1, 4), argument(0, 999), argument(1, 7));
        check(bank, "deal to three", (b, a) -> b.deal(a[0], a[1], a[2], a[3], a[4]), new int[] {50, 2, 2, 500, 7},
            argument(0, 96), argument(1, 3), argument(1, 4), argument(0, 999), set(3, 3));
        checkAll(bank, 1, 3, 1, 365);
    }

    /** Eight keepers, five secrets dealt to those but the first and the last, 63 entries; the day 634. */
    private static Threeboxes wide() {
        Threeboxes bank = Banks.ofZones(0, 1, 2, 3, 0, 1, 2, 3);
        for (int s = 0; s < 5; s++) {
            bank.deal(50, 1, 1, 0, 0b01111110);
        }
        for (int n = 5; n < 63; n++) {
            bank.open(n % 5, 255);
        }
        bank.pass(365);
        bank.pass(269);
        return bank;
    }

    private static void ofAWideBank() {
        Maker bank = ArgumentBoundsTest::wide;
        check(bank, "deal", (b, a) -> b.deal(a[0], a[1], a[2], a[3], a[4]), new int[] {50, 2, 2, 500, 0b11110000},
            argument(0, 96), argument(1, 4), argument(1, 4), argument(0, 999), set(3, 8));
        checkAll(bank, 5, 8, 63, 365);
    }

    /** All calls but keeper and deal, of a bank in which the first and the last keeper have no shares. */
    private static void checkAll(Maker bank, int secrets, int keepers, int entries, int mostDays) {
        Range secret = index(0, secrets - 1);
        Range keeper = index(0, keepers - 1);
        Range entry = index(0, entries - 1);
        Range any = set(0, keepers);
        Range some = set(2, keepers);
        check(bank, "lie", (b, a) -> b.lie(a[0], a[1]), new int[] {1, 5}, keeper, argument(0, 96));
        check(bank, "fresh", (b, a) -> b.fresh(a[0], a[1]), new int[] {0, 2}, secret, some);
        check(bank, "flood", (b, a) -> b.flood(a[0]), new int[] {1}, index(0, 3));
        check(bank, "rebuild", (b, a) -> b.rebuild(a[0], a[1], a[2]), new int[] {0, 0, 2}, secret, keeper, some);
        check(bank, "freeze", (b, a) -> b.freeze(a[0], a[1], true), new int[] {0, 0}, index(0, 1), secret);
        check(bank, "freeze no more", (b, a) -> b.freeze(a[0], a[1], false), new int[] {0, 0}, index(0, 1), secret);
        check(bank, "pass", (b, a) -> b.pass(a[0]), new int[] {100}, argument(1, mostDays));
        check(bank, "open", (b, a) -> b.open(a[0], a[1]), new int[] {0, 2}, secret, any);
        check(bank, "ofKeeper", (b, a) -> b.ofKeeper(a[0], a[1]), new int[] {1, 1}, keeper, argument(0, 6));
        check(bank, "ofSecret", (b, a) -> b.ofSecret(a[0], a[1]), new int[] {0, 1}, secret, argument(0, 8));
        check(bank, "share", (b, a) -> b.share(a[0], a[1], a[2]), new int[] {0, 1, 1}, secret, keeper,
            argument(0, 2));
        check(bank, "bank", (b, a) -> b.bank(a[0]), new int[] {1}, argument(0, 11));
        check(bank, "ofEntry", (b, a) -> b.ofEntry(a[0], a[1]), new int[] {0, 1}, entry, argument(0, 3));
        check(bank, "proof", (b, a) -> b.proof(a[0], a[1]), new int[] {0, 1}, entry, index(0, 5));
        check(bank, "row", (b, a) -> b.row(a[0]), new int[] {0}, secret);
        check(bank, "would", (b, a) -> b.would(a[0], a[1], a[2]), new int[] {0, 2, 1}, secret, any, argument(0, 5));
        check(bank, "may", (b, a) -> b.may(a[0], a[1], a[2]), new int[] {0, 2, 1}, secret, any, argument(0, 96));
        check(bank, "lost", (b, a) -> b.lost(a[0]), new int[] {0}, secret);
        check(bank, "fewest", (b, a) -> b.fewest(a[0]), new int[] {0}, secret);
        check(bank, "proves", (b, a) -> b.proves(a[0], a[1]), new int[] {0, 1}, entry, argument(0, 9972));
    }

    /** Without keepers, secrets and entries each number of one is wrong, and the empty set is the only one. */
    private static void ofAnEmptyBank() {
        Threeboxes bank = new Threeboxes();
        for (int n : new int[] {0, -1, 1, Integer.MIN_VALUE, Integer.MAX_VALUE}) {
            Check.noIndex("lie(" + n + ", 0)", bank, () -> bank.lie(n, 0));
            Check.noIndex("fresh(" + n + ", 0)", bank, () -> bank.fresh(n, 0));
            Check.noIndex("rebuild(" + n + ", 0, 0)", bank, () -> bank.rebuild(n, 0, 0));
            Check.noIndex("freeze(0, " + n + ", true)", bank, () -> bank.freeze(0, n, true));
            Check.noIndex("open(" + n + ", 0)", bank, () -> bank.open(n, 0));
            Check.noIndex("ofKeeper(" + n + ", 0)", bank, () -> bank.ofKeeper(n, 0));
            Check.noIndex("ofSecret(" + n + ", 0)", bank, () -> bank.ofSecret(n, 0));
            Check.noIndex("share(" + n + ", 0, 0)", bank, () -> bank.share(n, 0, 0));
            Check.noIndex("ofEntry(" + n + ", 0)", bank, () -> bank.ofEntry(n, 0));
            Check.noIndex("proof(" + n + ", 0)", bank, () -> bank.proof(n, 0));
            Check.noIndex("row(" + n + ")", bank, () -> bank.row(n));
            Check.noIndex("would(" + n + ", 0, 0)", bank, () -> bank.would(n, 0, 0));
            Check.noIndex("may(" + n + ", 0, 0)", bank, () -> bank.may(n, 0, 0));
            Check.noIndex("lost(" + n + ")", bank, () -> bank.lost(n));
            Check.noIndex("fewest(" + n + ")", bank, () -> bank.fewest(n));
            Check.noIndex("proves(" + n + ", 0)", bank, () -> bank.proves(n, 0));
            Check.noArgument("deal(0, 1, 1, 0, " + n + ")", bank, () -> bank.deal(0, 1, 1, 0, n));
        }
        Check.same("flood(0) of an empty bank", bank.flood(0), 0);
        Check.same("flood(3) of an empty bank", bank.flood(3), 0);
    }

    /** Eight keepers, six secrets of which all have shares, 64 entries, the last day. */
    private static Threeboxes full() {
        Threeboxes bank = Banks.ofZones(0, 1, 2, 3, 0, 1, 2, 3);
        for (int s = 0; s < 6; s++) {
            bank.deal(16 * s, 1 + s % 4, 1 + s % 4, 999, 255);
        }
        bank.pass(365);
        bank.pass(365);
        for (int n = 6; n < 64; n++) {
            bank.open(n % 6, 255);
        }
        bank.pass(269);
        return bank;
    }

    private static void ofAFullBank() {
        Threeboxes bank = full();
        Check.same("the last of each is there", bank.share(5, 7, 1) + bank.ofEntry(63, 0), 5);
        Check.noIndex("lie(8, 0)", bank, () -> bank.lie(8, 0));
        Check.noIndex("ofKeeper(8, 0)", bank, () -> bank.ofKeeper(8, 0));
        Check.noIndex("share(0, 8, 0)", bank, () -> bank.share(0, 8, 0));
        Check.noIndex("share(6, 0, 0)", bank, () -> bank.share(6, 0, 0));
        Check.noIndex("rebuild(0, 8, 255)", bank, () -> bank.rebuild(0, 8, 255));
        Check.noIndex("rebuild(6, 0, 255)", bank, () -> bank.rebuild(6, 0, 255));
        Check.noIndex("fresh(6, 255)", bank, () -> bank.fresh(6, 255));
        Check.noIndex("open(6, 255)", bank, () -> bank.open(6, 255));
        Check.noIndex("freeze(0, 6, true)", bank, () -> bank.freeze(0, 6, true));
        Check.noIndex("ofSecret(6, 0)", bank, () -> bank.ofSecret(6, 0));
        Check.noIndex("row(6)", bank, () -> bank.row(6));
        Check.noIndex("would(6, 255, 0)", bank, () -> bank.would(6, 255, 0));
        Check.noIndex("may(6, 255, 0)", bank, () -> bank.may(6, 255, 0));
        Check.noIndex("lost(6)", bank, () -> bank.lost(6));
        Check.noIndex("fewest(6)", bank, () -> bank.fewest(6));
        Check.noIndex("ofEntry(64, 0)", bank, () -> bank.ofEntry(64, 0));
        Check.noIndex("proof(64, 0)", bank, () -> bank.proof(64, 0));
        Check.noIndex("proves(64, 0)", bank, () -> bank.proves(64, 0));
        Check.noArgument("open(5, 256)", bank, () -> bank.open(5, 256));
        Check.noArgument("would(5, 256, 0)", bank, () -> bank.would(5, 256, 0));
        Check.noArgument("may(5, 256, 0)", bank, () -> bank.may(5, 256, 0));
        Check.noArgument("fresh(5, 256)", bank, () -> bank.fresh(5, 256));
    }

    /** Of n keepers the sets are 0 to 2^n - 1: who comes later is no keeper yet. */
    private static void setsOfEachNumberOfKeepers() {
        Threeboxes bank = Banks.ofZones(0);
        bank.deal(50, 1, 1, 0, 1);
        for (int n = 1; n <= 8; n++) {
            int all = (1 << n) - 1;
            Check.same("open, of " + n, bank.open(0, all), 50);
            Check.same("the GROUP, of " + n, bank.would(0, all, 0), 1);
            Check.same("may, of " + n, bank.may(0, all, 50), true);
            Check.same("fresh, of " + n, bank.fresh(0, all), 0);
            for (int wrong : new int[] {-1, all + 1, all + 2, 2 * all + 2, 256, Integer.MIN_VALUE}) {
                Check.noArgument(n + ": open(0, " + wrong + ")", bank, () -> bank.open(0, wrong));
                Check.noArgument(n + ": would(0, " + wrong + ", 0)", bank, () -> bank.would(0, wrong, 0));
                Check.noArgument(n + ": may(0, " + wrong + ", 0)", bank, () -> bank.may(0, wrong, 0));
                Check.noArgument(n + ": fresh(0, " + wrong + ")", bank, () -> bank.fresh(0, wrong));
                Check.noArgument(n + ": rebuild(0, 0, " + wrong + ")", bank, () -> bank.rebuild(0, 0, wrong));
                Check.noArgument(n + ": deal to " + wrong, bank, () -> bank.deal(0, 1, 1, 0, wrong));
            }
            if (n < 8) {
                bank.keeper(0, 1, 1);
            }
        }
    }

    private static void check(Maker maker, String name, Call call, int[] usual, Range... ranges) {
        for (int i = 0; i < ranges.length; i++) {
            for (int allowed : ranges[i].allowed()) {
                int[] with = usual.clone();
                with[i] = allowed;
                accepts(name, call, maker.make(), with);
            }
            for (int wrong : ranges[i].wrong()) {
                int[] with = usual.clone();
                with[i] = wrong;
                Threeboxes bank = maker.make();
                Check.refuses(told(name, with), bank, () -> call.on(bank, with), ranges[i].due());
                checkSecondWrong(maker, name, call, with, i, ranges);
            }
        }
    }

    /** With a second argument that is wrong, too: the exception that is named first, which is that of indexes. */
    private static void checkSecondWrong(Maker maker, String name, Call call, int[] firstWrong, int first,
            Range... ranges) {
        for (int i = 0; i < ranges.length; i++) {
            if (i == first) {
                continue;
            }
            Class<?> due = ranges[i].due() == INDEX ? INDEX : ranges[first].due();
            for (int wrong : ranges[i].wrong()) {
                int[] with = firstWrong.clone();
                with[i] = wrong;
                Threeboxes bank = maker.make();
                Check.refuses(told(name, with), bank, () -> call.on(bank, with), due);
            }
        }
    }

    private static void accepts(String name, Call call, Threeboxes bank, int[] with) {
        String got = "accepted";
        try {
            call.on(bank, with);
        } catch (RuntimeException e) {
            got = Check.nameOf(e);
        }
        Check.same(told(name, with), got, "accepted");
    }

    private static String told(String name, int[] with) {
        StringBuilder text = new StringBuilder(name).append('(');
        for (int i = 0; i < with.length; i++) {
            text.append(i == 0 ? "" : ", ").append(with[i]);
        }
        return text.append(')').toString();
    }
}
